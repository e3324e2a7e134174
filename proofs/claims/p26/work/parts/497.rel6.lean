/-! ===== what both sides have told of the closed hours ===== -/
abbrev UNK (x : Int32) : Prop := x.toInt = 2000000000
def TR6 (σ : SI) (i : Nat) : Prop :=
  ((σ 52 i).toInt ≠ 0 ∧ σ 24 i = σ 54 i ∧ (((σ 53 i).toInt ≠ 0 ∧ σ 26 i = σ 56 i) ∨ ((σ 53 i).toInt = 0 ∧ UNK (σ 26 i)))) ∨ ((σ 52 i).toInt = 0 ∧ UNK (σ 24 i) ∧ UNK (σ 26 i))
def PP6 (σ : SI) (h : Nat) : Prop :=
  ((σ 59 h).toInt ≠ -1 ∧ σ 29 h = σ 59 h ∧ σ 30 h = σ 60 h ∧ σ 31 h = σ 64 h ∧ σ 32 h = σ 61 h ∧ σ 33 h = σ 62 h ∧ σ 34 h = σ 63 h) ∨ ((σ 59 h).toInt = -1 ∧ ∀ k, 29 ≤ k → k ≤ 34 → (σ k h).toInt = -1)
def RT6 (σ : SI) : Prop :=
  (∀ i, i < 24 * (σ 35 29).toInt.toNat → TR6 σ i) ∧ (∀ i, 24 * (σ 35 29).toInt.toNat ≤ i → i < 4800 → UNK (σ 24 i) ∧ UNK (σ 25 i) ∧ UNK (σ 26 i) ∧ UNK (σ 28 i)) ∧ (∀ h, h < (σ 35 29).toInt.toNat → PP6 σ h) ∧ (∀ h, (σ 35 29).toInt.toNat ≤ h → h < 200 → ∀ k, 29 ≤ k → k ≤ 34 → (σ k h).toInt = -1) ∧ stC σ = stM6 σ ∧ XB σ
def RS6 (σ : SI) : Prop := σ 0 9 = σ 35 30 ∧ σ 0 10 = σ 35 31
def RB6 (σ : SI) : Prop := ∀ j, (-10000 ≤ (σ 47 j).toInt ∧ (σ 47 j).toInt ≤ 10000) ∧ (-10000 ≤ (σ 48 j).toInt ∧ (σ 48 j).toInt ≤ 10000) ∧ (-10000 ≤ (σ 49 j).toInt ∧ (σ 49 j).toInt ≤ 10000)
abbrev R9 (a b : Int32) : Prop := a = b ∨ (a.toInt = -10 ∧ b.toInt = -9)
def CK6 (σ : SI) (q : Nat) : Prop :=
  (σ (80 + q) 2 = σ 37 q ∧ 2 ≤ (σ 37 q).toInt ∧ (σ 37 q).toInt ≤ 12) ∧ (σ (80 + q) 3 = σ 38 q ∧ 1 ≤ (σ 38 q).toInt ∧ (σ 38 q).toInt ≤ 12) ∧ (σ (80 + q) 8 = σ 43 q ∧ 0 ≤ (σ 43 q).toInt ∧ (σ 43 q).toInt ≤ (σ 35 29).toInt) ∧
  σ (80 + q) 7 = σ 41 q ∧ R9 (σ (80 + q) 9) (σ 44 q) ∧ σ (80 + q) 10 = σ 45 q ∧ σ (80 + q) 11 = σ 46 q ∧ (0 ≤ (σ 44 q).toInt → isMp σ q (σ 44 q).toInt)
abbrev isC (σ : SI) (q : Nat) : Prop := 0 ≤ (σ 36 q).toInt ∧ (σ 36 q).toInt ≤ 3
def Rel6 (σ : SI) : Prop := RT6 σ ∧ RS6 σ ∧ RB6 σ ∧ ∀ q, q < 24 → isC σ q → CK6 σ q
def Inv6 (σ : SI) : Prop := Inv σ ∧ Rel σ ∧ EN σ ∧ Rel6 σ
def T6x (σ s : SI) : Prop := (∀ k, (8 ≤ k ∧ k ≤ 11) ∨ (24 ≤ k ∧ k ≤ 34) ∨ (52 ≤ k ∧ k ≤ 67) → s k = σ k) ∧ s 35 29 = σ 35 29 ∧ s 35 37 = σ 35 37
theorem RT6.ex {σ s : SI} (h : RT6 σ) (t : T6x σ s) : RT6 s := by
  obtain ⟨t1, t2, t3⟩ := t
  unfold RT6 TR6 PP6 stC stM6 XB at h ⊢
  rw [t2, t3, t1 8 (by omega), t1 9 (by omega), t1 10 (by omega), t1 11 (by omega), t1 24 (by omega), t1 25 (by omega), t1 26 (by omega), t1 28 (by omega), t1 29 (by omega), t1 30 (by omega), t1 31 (by omega), t1 32 (by omega), t1 33 (by omega), t1 34 (by omega), t1 52 (by omega), t1 53 (by omega), t1 54 (by omega), t1 56 (by omega), t1 59 (by omega), t1 60 (by omega), t1 61 (by omega), t1 62 (by omega), t1 63 (by omega), t1 64 (by omega), t1 65 (by omega), t1 66 (by omega), t1 67 (by omega)]
  obtain ⟨a, b, c, d, e, f⟩ := h
  refine ⟨a, b, fun h hh => ?_, fun h h1 h2 k k1 k2 => by rw [t1 k (by omega)]; exact d h h1 h2 k k1 k2, e, f⟩
  rcases c h hh with c | ⟨c1, c2⟩
  · exact Or.inl c
  · exact Or.inr ⟨c1, fun k k1 k2 => by rw [t1 k (by omega)]; exact c2 k k1 k2⟩
def C6x (σ s : SI) (j : Nat) : Prop := (∀ i, i = 2 ∨ i = 3 ∨ 7 ≤ i → s (80 + j) i = σ (80 + j) i) ∧ ∀ k, (36 ≤ k ∧ k ≤ 38) ∨ k = 41 ∨ (43 ≤ k ∧ k ≤ 46) → s k j = σ k j
theorem CK6.ex {σ s : SI} {q : Nat} (h : CK6 σ q) (c : C6x σ s q) (t : T6x σ s) : CK6 s q := by
  obtain ⟨c1, c2⟩ := c
  obtain ⟨t1, t2, t3⟩ := t
  unfold CK6 isMp isXp at h ⊢
  rw [c1 2 (by omega), c1 3 (by omega), c1 7 (by omega), c1 8 (by omega), c1 9 (by omega), c1 10 (by omega), c1 11 (by omega), c2 37 (by omega), c2 38 (by omega), c2 41 (by omega), c2 43 (by omega), c2 44 (by omega), c2 45 (by omega), c2 46 (by omega), t2, t1 52 (by omega), t1 53 (by omega)]
  exact h
def W6 (P : Nat → Prop) (σ s : SI) : Prop := (∀ k, (8 ≤ k ∧ k ≤ 11) ∨ (24 ≤ k ∧ k ≤ 34) → s k = σ k) ∧ ∀ j, j < 24 → ¬ P j → ∀ i, i = 2 ∨ i = 3 ∨ 7 ≤ i → s (80 + j) i = σ (80 + j) i
def V6 (P : Nat → Prop) (σ s : SI) : Prop := (∀ k, 52 ≤ k ∧ k ≤ 67 → s k = σ k) ∧ s 35 37 = σ 35 37 ∧ (∀ j, j < 24 → ¬ P j → ∀ k, (36 ≤ k ∧ k ≤ 38) ∨ k = 41 ∨ (43 ≤ k ∧ k ≤ 46) → s k j = σ k j) ∧ (RB6 σ → RB6 s)
theorem Rel6.go {P : Nat → Prop} {σ s1 s2 : SI} (h : Rel6 σ) (hc : CN σ s1) (hm : MN s1 s2) (a : W6 P σ s1) (b : V6 P s1 s2) (k : ∀ j, j < 24 → P j → isC s2 j → CK6 s2 j) : Rel6 s2 := by
  obtain ⟨h1, h2, h3, h4⟩ := h
  have e35 : s1 35 = σ 35 := hc.1 35 (by omega) (by omega)
  have t : T6x σ s2 := ⟨fun k hk => by
    by_cases z : k < 35
    · rw [hm.1 k (by omega)]; exact a.1 k (by omega)
    · rw [b.1 k (by omega)]; exact hc.1 k (by omega) (by omega), by rw [hm.2.2 29 (by omega) (by omega), e35], by rw [b.2.1, e35]⟩
  have c : ∀ j, j < 24 → ¬ P j → C6x σ s2 j := fun j hj hp => ⟨fun i hi => by rw [hm.1 (80 + j) (by omega)]; exact a.2 j hj hp i hi, fun k hk => by rw [b.2.2.1 j hj hp k hk, hc.1 k (by omega) (by omega)]⟩
  refine ⟨h1.ex t, ⟨?_, ?_⟩, b.2.2.2 ?_, fun q hq hk => ?_⟩
  · rw [hm.1 0 (by omega), hc.2.2 9 (by omega), hm.2.2 30 (by omega) (by omega), e35]; exact h2.1
  · rw [hm.1 0 (by omega), hc.2.2 10 (by omega), hm.2.2 31 (by omega) (by omega), e35]; exact h2.2
  · unfold RB6
    rw [hc.1 47 (by omega) (by omega), hc.1 48 (by omega) (by omega), hc.1 49 (by omega) (by omega)]
    exact h3
  · by_cases z : P q
    · exact k q hq z hk
    · have cq := c q hq z
      refine (h4 q hq ?_).ex cq t
      have := cq.2 36 (by omega)
      unfold isC at hk ⊢
      rw [← this]
      exact hk
abbrev P0 : Nat → Prop := fun _ => False
theorem W6.rf {P : Nat → Prop} {σ s : SI} (e : s = σ) : W6 P σ s := by
  subst e
  exact ⟨fun _ _ => rfl, fun _ _ _ _ _ => rfl⟩
theorem W6.up {P : Nat → Prop} {σ s : SI} {k i : Nat} {x : Int32} (h : W6 P σ s) (hk : k ≤ 7 ∨ (12 ≤ k ∧ k ≤ 23) ∨ (80 ≤ k ∧ (k < 104 → i ≠ 2 ∧ i ≠ 3 ∧ i < 7))) : W6 P σ (up2 s k i x) :=
  ⟨fun k' h1 => (up2_ne (by omega)).trans (h.1 k' h1), fun j hj hp i' hi => by
    by_cases e : 80 + j = k
    · rw [u4 (show i' ≠ i by omega)]; exact h.2 j hj hp i' hi
    · rw [up2_o e]; exact h.2 j hj hp i' hi⟩
theorem W6.upq {P : Nat → Prop} {σ s : SI} {q i : Nat} {x : Int32} (h : W6 P σ s) (hp : P q) : W6 P σ (up2 s (80 + q) i x) :=
  ⟨fun k' h1 => (up2_ne (by omega)).trans (h.1 k' h1), fun j hj hpj i' hi => by
    have e : 80 + j ≠ 80 + q := fun e => hpj (by rw [show j = q by omega]; exact hp)
    rw [up2_o e]; exact h.2 j hj hpj i' hi⟩
theorem W6.fr {P S : Nat → Prop} {σ s s1 : SI} (h : W6 P σ s) (r : Fr S s s1) (hS : ∀ k, S k → k ≤ 7 ∨ (12 ≤ k ∧ k ≤ 23) ∨ 104 ≤ k) : W6 P σ s1 :=
  ⟨fun k h1 => (r k (fun q => by have := hS k q; omega)).trans (h.1 k h1), fun j hj hp i hi => by rw [r (80 + j) (fun q => by have := hS _ q; omega)]; exact h.2 j hj hp i hi⟩
theorem V6.rf {P : Nat → Prop} {σ s : SI} (e : s = σ) : V6 P σ s := by
  subst e
  exact ⟨fun _ _ => rfl, rfl, fun _ _ _ _ _ => rfl, fun h => h⟩
theorem RB6.ex {σ s : SI} (h : RB6 σ) (e1 : s 47 = σ 47) (e2 : s 48 = σ 48) (e3 : s 49 = σ 49) : RB6 s := by
  unfold RB6
  rw [e1, e2, e3]
  exact h
theorem RB6.up {s : SI} {k i : Nat} {x : Int32} (h : RB6 s) (hx : k = 47 ∨ k = 48 ∨ k = 49 → -10000 ≤ x.toInt ∧ x.toInt ≤ 10000) : RB6 (up2 s k i x) := fun j => by
  have a := h j
  exact ⟨up2_c (P := fun y => -10000 ≤ y.toInt ∧ y.toInt ≤ 10000) a.1 (fun e => hx (by omega)), up2_c (P := fun y => -10000 ≤ y.toInt ∧ y.toInt ≤ 10000) a.2.1 (fun e => hx (by omega)), up2_c (P := fun y => -10000 ≤ y.toInt ∧ y.toInt ≤ 10000) a.2.2 (fun e => hx (by omega))⟩
theorem V6.up {P : Nat → Prop} {σ s : SI} {k i : Nat} {x : Int32} (h : V6 P σ s) (hk : k = 39 ∨ k = 40 ∨ k = 42 ∨ (47 ≤ k ∧ k ≤ 51)) (hx : k = 47 ∨ k = 48 ∨ k = 49 → -10000 ≤ x.toInt ∧ x.toInt ≤ 10000) : V6 P σ (up2 s k i x) :=
  ⟨fun k' h1 => (up2_ne (by omega)).trans (h.1 k' h1), (up2_o (by omega)).trans h.2.1, fun j hj hp k' h1 => by rw [up2_ne (by omega)]; exact h.2.2.1 j hj hp k' h1, fun b => (h.2.2.2 b).up hx⟩
theorem V6.upq {P : Nat → Prop} {σ s : SI} {k q : Nat} {x : Int32} (h : V6 P σ s) (hp : P q) (hk : 36 ≤ k ∧ k ≤ 46) : V6 P σ (up2 s k q x) :=
  ⟨fun k' h1 => (up2_ne (by omega)).trans (h.1 k' h1), (up2_o (by omega)).trans h.2.1, fun j hj hpj k' h1 => by
    have e : j ≠ q := fun e => hpj (by rw [e]; exact hp)
    rw [u4 e]; exact h.2.2.1 j hj hpj k' h1, fun b => (h.2.2.2 b).up (by omega)⟩
theorem V6.up35 {P : Nat → Prop} {σ s : SI} {i : Nat} {x : Int32} (h : V6 P σ s) (hi : i ≠ 37) : V6 P σ (up2 s 35 i x) :=
  ⟨fun k' h1 => (up2_ne (by omega)).trans (h.1 k' h1), (up2_n (by omega)).trans h.2.1, fun j hj hp k' h1 => by rw [up2_ne (by omega)]; exact h.2.2.1 j hj hp k' h1, fun b => (h.2.2.2 b).up (by omega)⟩
theorem V6.fr {P S : Nat → Prop} {σ s s1 : SI} (h : V6 P σ s) (r : Fr S s s1) (hS : ∀ k, S k → k = 50 ∨ k = 51) : V6 P σ s1 :=
  ⟨fun k h1 => (r k (fun q => by have := hS k q; omega)).trans (h.1 k h1), by rw [r 35 (fun q => by have := hS _ q; omega)]; exact h.2.1, fun j hj hp k hk => by rw [r k (fun q => by have := hS k q; omega)]; exact h.2.2.1 j hj hp k hk, fun b => (h.2.2.2 b).ex (r 47 (fun q => by have := hS _ q; omega)) (r 48 (fun q => by have := hS _ q; omega)) (r 49 (fun q => by have := hS _ q; omega))⟩
theorem V6.mr {P S J : Nat → Prop} {σ s1 : SI} (r : MRel S J σ s1) (hS : ∀ k, S k → 68 ≤ k) (hJ : ¬ J 37) : V6 P σ s1 :=
  ⟨fun k h1 => r.1 k (by omega) (fun q => by have := hS k q; omega), r.2 37 hJ, fun j hj hp k hk => by rw [r.1 k (by omega) (fun q => by have := hS k q; omega)], fun b => b.ex (r.1 47 (by omega) (fun q => by have := hS _ q; omega)) (r.1 48 (by omega) (fun q => by have := hS _ q; omega)) (r.1 49 (by omega) (fun q => by have := hS _ q; omega))⟩
section REL6K
variable {σ s s1 s2 : SI} {τ t t1 t2 : SL} {v v2 : Int32} {pl ka fa sa xa ya wa hr oa : Int32} {q fq sq xq yq hq : Nat}
theorem w6_put (w : po_X9_put σ τ pl q ka fa fq sa sq v (s, t)) : W6 (fun j => j = q) σ s := by
  rcases w with ⟨-, e, -⟩ | ⟨-, e, -, hp⟩ | ⟨-, -, hp, hT⟩ | ⟨-, e, -, hp⟩
  · exact .rf e
  · have e : s = _ := e
    rw [e]
    exact ((((((((((((W6.rf rfl).up (by omega)).upq (by exact rfl)).upq (by exact rfl)).upq (by exact rfl)).upq (by exact rfl)).upq (by exact rfl)).upq (by exact rfl)).upq (by exact rfl)).upq (by exact rfl)).upq (by exact rfl)).upq (by exact rfl)).upq (by exact rfl)
  · exact W6.fr ((((((W6.rf rfl).up (by omega)).up (by omega)).up (by omega)).up (by omega)).up (by omega)) hT.1 (fun k hk => by omega)
  · have e : s = _ := e
    rw [e]
    exact (W6.rf rfl).up (by omega)
theorem v6_put (w : po_X10_put σ τ pl q ka fa fq sa sq v (s, t)) : V6 (fun j => j = q) σ s := by
  rcases w with ⟨-, e, -⟩ | ⟨-, -, hN, -⟩
  · exact .rf e
  · have hN : TornN _ s q 201 := hN
    exact V6.fr (((((((((((((V6.rf rfl).upq (by exact rfl) (by omega)).upq (by exact rfl) (by omega)).upq (by exact rfl) (by omega)).upq (by exact rfl) (by omega)).upq (by exact rfl) (by omega)).upq (by exact rfl) (by omega)).upq (by exact rfl) (by omega)).upq (by exact rfl) (by omega)).upq (by exact rfl) (by omega)).upq (by exact rfl) (by omega)).upq (by exact rfl) (by omega)).up (by omega) (fun _ => by decide)) hN.1 (fun k hk => hk)
theorem w6_lift (w : po_X9_lift σ τ pl q v (s, t)) : W6 (fun j => j = q) σ s := by
  rcases w with ⟨-, e, -⟩ | ⟨-, e, -⟩ | ⟨-, e, -⟩
  all_goals
    have e : s = _ := e
    rw [e]
    first | exact W6.rf rfl | exact (W6.rf rfl).up (by omega)
theorem v6_lift (w : po_X10_lift σ τ pl q v (s, t)) : V6 (fun j => j = q) σ s := by
  rcases w with ⟨-, e, -⟩ | ⟨-, e, -⟩ | ⟨-, e, -⟩
  · exact .rf e
  · exact .rf e
  · have e : s = _ := e
    rw [e]
    exact (V6.rf rfl).upq (by exact rfl) (by omega)
theorem w6_read (w : po_X9_read σ τ pl q xa v (s, t)) : W6 P0 σ s := by
  rcases w with ⟨-, e, -⟩ | ⟨-, e, -⟩ | ⟨-, e, -⟩
  all_goals
    have e : s = _ := e
    rw [e]
    first | exact W6.rf rfl | exact (W6.rf rfl).up (by omega)
theorem v6_read (w : po_X10_read σ τ pl q xa v (s, t)) : V6 P0 σ s := by
  rcases w with ⟨-, e, -⟩ | ⟨-, e, -⟩ | ⟨-, e, -, hp⟩
  · exact .rf e
  · exact .rf e
  · have e : s = _ := e
    rw [e]
    exact ((V6.rf rfl).up (by omega) (fun _ => by omega)).up (by omega) (by omega)
theorem w6_back (w : po_X9_back σ τ pl q xa v (s, t)) : W6 P0 σ s := by
  rcases w with ⟨-, e, -⟩ | ⟨-, e, -⟩ | ⟨-, e, -⟩
  all_goals
    have e : s = _ := e
    rw [e]
    first | exact W6.rf rfl | exact (W6.rf rfl).up (by omega)
theorem v6_back (w : po_X10_back σ τ pl q xa v (s, t)) : V6 P0 σ s := by
  rcases w with ⟨-, e, -⟩ | ⟨-, e, -⟩ | ⟨-, e, -, hp⟩
  · exact .rf e
  · exact .rf e
  · have e : s = _ := e
    rw [e]
    exact ((V6.rf rfl).up (by omega) (fun _ => by omega)).up (by omega) (by omega)
theorem w6_tear (w : po_X9_tear σ τ pl q v (s, t)) : W6 P0 σ s := by
  rcases w with ⟨-, e, -⟩ | ⟨-, e, -⟩ | ⟨-, -, -, -, hT⟩
  · exact .rf e
  · exact .rf e
  · exact W6.fr (W6.rf rfl) hT.1 (fun k hk => by omega)
theorem v6_tear (w : po_X10_tear σ τ pl q v (s, t)) : V6 P0 σ s := by
  rcases w with ⟨-, e, -⟩ | ⟨-, e, -⟩ | ⟨-, -, -, -, hT⟩
  · exact .rf e
  · exact .rf e
  · exact V6.fr (V6.rf rfl) hT.1 (fun k hk => hk)
theorem w6_way (w : po_X9_way σ τ pl q xa v (s, t)) : W6 P0 σ s := by
  rcases w with ⟨-, e, -⟩ | ⟨-, e, -⟩ | ⟨-, e, -⟩
  all_goals
    have e : s = _ := e
    rw [e]
    first | exact W6.rf rfl | exact (W6.rf rfl).up (by omega)
theorem v6_way (w : po_X10_way σ τ pl q xa v (s, t)) : V6 P0 σ s := by
  rcases w with ⟨-, e, -⟩ | ⟨-, e, -⟩ | ⟨-, e, -, hp⟩
  · exact .rf e
  · exact .rf e
  · have e : s = _ := e
    rw [e]
    exact (V6.rf rfl).up (by omega) (fun _ => by omega)
theorem w6_take (w : po_X9_take σ τ pl q v (s, t)) : W6 (fun j => j = q) σ s := by
  rcases w with ⟨-, e, -⟩ | ⟨-, e, -⟩ | ⟨-, e, -⟩
  · exact .rf e
  · exact .rf e
  · have e : s = _ := e
    rw [e]
    exact ((((W6.rf rfl).upq (by exact rfl)).upq (by exact rfl)).upq (by exact rfl)).upq (by exact rfl)
theorem v6_take (w : po_X10_take σ τ pl q v (s, t)) : V6 (fun j => j = q) σ s := by
  rcases w with ⟨-, e, -⟩ | ⟨-, e, -⟩ | ⟨-, e, -⟩
  · exact .rf e
  · exact .rf e
  · have e : s = _ := e
    rw [e]
    exact ((((V6.rf rfl).upq (by exact rfl) (by omega)).upq (by exact rfl) (by omega)).upq (by exact rfl) (by omega)).upq (by exact rfl) (by omega)
theorem w6_leave (w : po_X9_leave σ τ pl q v (s, t)) : W6 P0 σ s := by
  rcases w with ⟨-, e, -⟩ | ⟨-, e, -⟩ | ⟨-, e, -⟩ | ⟨-, e, -⟩
  all_goals
    have e : s = _ := e
    rw [e]
    first | exact W6.rf rfl | exact (W6.rf rfl).up (by omega)
theorem v6_leave (w : po_X10_leave σ τ pl q v (s, t)) : V6 P0 σ s := by
  rcases w with ⟨-, e, -⟩ | ⟨-, e, -⟩ | ⟨-, e, -⟩ | ⟨-, e, -⟩
  all_goals
    have e : s = _ := e
    rw [e]
    first | exact V6.rf rfl | exact (V6.rf rfl).up (by omega) (by omega)
theorem w6_call (w : po_X9_call σ τ pl q oa v (s, t)) : W6 P0 σ s := by
  rcases w with ⟨-, e, -⟩ | ⟨-, e, -⟩ | ⟨-, e, -⟩
  all_goals
    have e : s = _ := e
    rw [e]
    first | exact W6.rf rfl | exact (W6.rf rfl).up (by omega)
theorem v6_call (w : po_X10_call σ τ pl q oa v (s, t)) : V6 P0 σ s := by
  rcases w with ⟨-, e, -⟩ | ⟨-, e, -⟩ | ⟨-, e, -⟩
  all_goals
    have e : s = _ := e
    rw [e]
    first | exact V6.rf rfl | exact (V6.rf rfl).up (by omega) (by omega)
theorem w6_steer (w : po_X9_steer σ τ pl q xa v (s, t)) : W6 P0 σ s := by
  rcases w with ⟨-, e, -⟩ | ⟨-, e, -⟩ | ⟨-, e, -⟩ | ⟨-, e, -⟩
  all_goals
    have e : s = _ := e
    rw [e]
    first | exact W6.rf rfl | exact (W6.rf rfl).up (by omega)
theorem v6_steer (w : po_X10_steer σ τ pl q xa v (s, t)) : V6 P0 σ s := by
  rcases w with ⟨-, e, -⟩ | ⟨-, e, -⟩ | ⟨-, e, -⟩ | ⟨-, e, -⟩
  all_goals
    have e : s = _ := e
    rw [e]
    first | exact V6.rf rfl | exact (V6.rf rfl).up (by omega) (by omega)
theorem w6_difference (w : po_X9_difference σ τ xa xq ya yq hr v (s, t)) : W6 P0 σ s := W6.fr (W6.rf rfl) w (fun k hk => by omega)
theorem v6_difference (w : po_X10_difference σ τ xa xq ya yq hr hq v (s, t)) : V6 P0 σ s := V6.mr w (fun k hk => by omega) (by omega)
theorem w6_along (w : po_X9_along σ τ xa xq ya yq hr v (s, t)) : W6 P0 σ s := W6.fr (W6.rf rfl) w.1 (fun k hk => by omega)
theorem v6_along (w : po_X10_along σ τ xa xq ya yq hr hq v (s, t)) : V6 P0 σ s := V6.mr w.1 (fun k hk => by omega) (by omega)
theorem w6_F (w : Fr (fun k => 18 ≤ k ∧ k ≤ 20) σ s) : W6 P0 σ s := W6.fr (W6.rf rfl) w (fun k hk => by omega)
theorem v6_F (w : MRel (fun _ => False) (fun j => j = 44) σ s) : V6 P0 σ s := V6.mr w (fun k hk => hk.elim) (by omega)
theorem p0_k {s2 : SI} : ∀ j, j < 24 → P0 j → isC s2 j → CK6 s2 j := fun _ _ h _ => h.elim

theorem k6_put (h : Rel6 σ) (hn : 0 ≤ (σ 35 29).toInt ∧ (σ 35 29).toInt ≤ 200) (hw : σ 0 8 = σ 35 29) (hcf : Cfr σ s1) (hR : Rel σ) (hq : pl.toInt.toNat = q) (hfq : fa.toInt.toNat = fq) (hsq : sa.toInt.toNat = sq) (w : po_X9_put σ τ pl q ka fa fq sa sq v (s1, t1)) (w2 : po_X10_put s1 t1 pl q ka fa fq sa sq v2 (s2, t2)) : ∀ j, j < 24 → j = q → isC s2 j → CK6 s2 j := by
  intro j hj e hk
  subst e
  have c36 : s1 36 = σ 36 := hcf 36 (by omega) (by omega)
  have c29 : s1 35 29 = σ 35 29 := by rw [hcf 35 (by omega) (by omega)]
  have kq := rel_kq hR hq
  have kf := rel_kq hR hfq
  have ks := rel_kq hR hsq
  rcases w2 with ⟨f0, f, -, n1, n2, n3⟩ | ⟨f0, -, hN, hp2⟩
  · have f : s2 = s1 := f
    rcases w with ⟨e0, e, -⟩ | ⟨e0, e, -, hp⟩ | ⟨e0, -, hp, hT⟩ | ⟨e0, e, -, hp⟩
    · have e : s1 = σ := e
      rw [f, e] at hk ⊢
      exact h.2.2.2 j hj hk
    · exfalso
      rw [c36] at n1
      exact n1 (by omega)
    · exfalso
      rw [c36] at n2
      exact n2 (by omega)
    · exfalso
      rw [c36] at n3
      exact n3 (by omega)
  · have hN : TornN _ s2 j 201 := hN
    have g : ∀ k, k ≠ 50 → k ≠ 51 → s2 k = _ := fun k h1 h2 => hN.1 k (by omega)
    have k36 : s2 36 j = ka := by rw [g 36 (by decide) (by decide)]; (repeat (first | rw [up2_o (by omega)] | rw [up2_n (by omega)] | rw [up2_s]))
    unfold isC at hk
    rw [k36] at hk
    rcases w with ⟨e0, e, -, n1, n2, n3⟩ | ⟨e0, e, -, hp⟩ | ⟨e0, -, hp, hT⟩ | ⟨e0, e, -, hp⟩
    · exfalso
      rw [c36] at hp2
      rcases hp2 with hp2 | hp2 | hp2
      · exact n1 (by omega)
      · omega
      · omega
    · have e : s1 = _ := e
      have k37 : s2 37 j = fa := by rw [g 37 (by decide) (by decide)]; (repeat (first | rw [up2_o (by omega)] | rw [up2_n (by omega)] | rw [up2_s]))
      have k38 : s2 38 j = sa := by rw [g 38 (by decide) (by decide)]; (repeat (first | rw [up2_o (by omega)] | rw [up2_n (by omega)] | rw [up2_s]))
      have k41 : s2 41 j = 0 := by rw [g 41 (by decide) (by decide)]; (repeat (first | rw [up2_o (by omega)] | rw [up2_n (by omega)] | rw [up2_s]))
      have k43 : s2 43 j = σ 35 29 := by rw [g 43 (by decide) (by decide)]; (repeat (first | rw [up2_o (by omega)] | rw [up2_n (by omega)] | rw [up2_s])); exact c29
      have k44 : s2 44 j = -9 := by rw [g 44 (by decide) (by decide)]; (repeat (first | rw [up2_o (by omega)] | rw [up2_n (by omega)] | rw [up2_s]))
      have k45 : s2 45 j = 0 := by rw [g 45 (by decide) (by decide)]; (repeat (first | rw [up2_o (by omega)] | rw [up2_n (by omega)] | rw [up2_s]))
      have k46 : s2 46 j = 0 := by rw [g 46 (by decide) (by decide)]; (repeat (first | rw [up2_o (by omega)] | rw [up2_n (by omega)] | rw [up2_s]))
      have k29 : s2 35 29 = σ 35 29 := by rw [g 35 (by decide) (by decide)]; (repeat (first | rw [up2_o (by omega)] | rw [up2_n (by omega)] | rw [up2_s])); exact c29
      unfold CK6 R9
      rw [k37, k38, k41, k43, k44, k45, k46, k29]
      refine ⟨⟨?_, by omega, by omega⟩, ⟨?_, by omega, by omega⟩, ⟨?_, by omega, by omega⟩, ?_, Or.inr ⟨?_, by decide⟩, ?_, ?_, fun z => absurd z (by decide)⟩
      · rw [g (80 + j) (by omega) (by omega), e]; (repeat (first | rw [up2_o (by omega)] | rw [up2_n (by omega)] | rw [up2_s]))
      · rw [g (80 + j) (by omega) (by omega), e]; (repeat (first | rw [up2_o (by omega)] | rw [up2_n (by omega)] | rw [up2_s]))
      · rw [g (80 + j) (by omega) (by omega), e]; (repeat (first | rw [up2_o (by omega)] | rw [up2_n (by omega)] | rw [up2_s])); exact hw
      · rw [g (80 + j) (by omega) (by omega), e]; (repeat (first | rw [up2_o (by omega)] | rw [up2_n (by omega)] | rw [up2_s]))
      · rw [g (80 + j) (by omega) (by omega), e]; (repeat (first | rw [up2_o (by omega)] | rw [up2_n (by omega)] | rw [up2_s])); decide
      · rw [g (80 + j) (by omega) (by omega), e]; (repeat (first | rw [up2_o (by omega)] | rw [up2_n (by omega)] | rw [up2_s]))
      · rw [g (80 + j) (by omega) (by omega), e]; (repeat (first | rw [up2_o (by omega)] | rw [up2_n (by omega)] | rw [up2_s]))
    · exfalso; omega
    · exfalso; omega
theorem k6_lift (h : Rel6 σ) (hcf : Cfr σ s1) (hR : Rel σ) (hq : pl.toInt.toNat = q) (w : po_X9_lift σ τ pl q v (s1, t1)) (w2 : po_X10_lift s1 t1 pl q v2 (s2, t2)) : ∀ j, j < 24 → j = q → isC s2 j → CK6 s2 j := by
  intro j hj e hk
  subst e
  have hl := hasLk_iff (pl := pl) hR
  have kq := rel_kq hR hq
  have c36 : s1 36 = σ 36 := hcf 36 (by omega) (by omega)
  have hlm : hasLkM s1 pl ↔ hasLkM σ pl := by
    unfold hasLkM
    rw [c36, hcf 37 (by omega) (by omega), hcf 38 (by omega) (by omega)]
  have same : s2 = σ → CK6 s2 j := fun e => by
    rw [e] at hk ⊢
    exact h.2.2.2 j hj hk
  rcases w with ⟨e0, e, -⟩ | ⟨e0, e, -, a1, a2⟩ | ⟨e0, e, -⟩
  · have e : s1 = σ := e
    rcases w2 with ⟨f0, f, -⟩ | ⟨f0, f, -⟩ | ⟨f0, f, -⟩
    · have f : s2 = s1 := f
      exact same (f.trans e)
    · have f : s2 = s1 := f
      exact same (f.trans e)
    · have f : s2 = _ := f
      rw [f] at hk
      unfold isC at hk
      rw [up2_s] at hk
      exact absurd hk (by decide)
  · rcases w2 with ⟨f0, f, -, b1⟩ | ⟨f0, f, -, b1, b2, b3⟩ | ⟨f0, f, -⟩
    · have f : s2 = s1 := f
      exfalso
      rw [f] at hk
      unfold isC at hk
      rw [c36] at b1 hk
      omega
    · exfalso
      have b1 : hasLkM s1 pl := b1
      have b3 : 0 ≤ (s1 36 j).toInt ∧ (s1 36 j).toInt ≤ 3 := b3
      rw [c36] at b3
      rcases a2 with a2 | a2
      · exact a2 (hl.mpr (hlm.mp b1))
      · omega
    · have f : s2 = _ := f
      rw [f] at hk
      unfold isC at hk
      rw [up2_s] at hk
      exact absurd hk (by decide)
  · have e : s1 = σ := e
    rcases w2 with ⟨f0, f, -⟩ | ⟨f0, f, -⟩ | ⟨f0, f, -⟩
    · have f : s2 = s1 := f
      exact same (f.trans e)
    · have f : s2 = s1 := f
      exact same (f.trans e)
    · have f : s2 = _ := f
      rw [f] at hk
      unfold isC at hk
      rw [up2_s] at hk
      exact absurd hk (by decide)
theorem k6_take (h : Rel6 σ) (hn : 0 ≤ (σ 35 29).toInt ∧ (σ 35 29).toInt ≤ 200) (hw : σ 0 8 = σ 35 29) (hcf : Cfr σ s1) (hR : Rel σ) (hq : pl.toInt.toNat = q) (w : po_X9_take σ τ pl q v (s1, t1)) (w2 : po_X10_take s1 t1 pl q v2 (s2, t2)) : ∀ j, j < 24 → j = q → isC s2 j → CK6 s2 j := by
  intro j hj e hk
  subst e
  have kq := rel_kq hR hq
  have c36 : s1 36 = σ 36 := hcf 36 (by omega) (by omega)
  have c29 : s1 35 29 = σ 35 29 := by rw [hcf 35 (by omega) (by omega)]
  have same : s2 = σ → CK6 s2 j := fun e => by
    rw [e] at hk ⊢
    exact h.2.2.2 j hj hk
  rcases w with ⟨e0, e, -, a1⟩ | ⟨e0, e, -, a1, a2, a3⟩ | ⟨e0, e, -, a1, a2⟩
  · have e : s1 = σ := e
    rcases w2 with ⟨f0, f, -, b1⟩ | ⟨f0, f, -, b1, b2, b3⟩ | ⟨f0, f, -, b1, b2⟩
    · have f : s2 = s1 := f
      exact same (f.trans e)
    · have f : s2 = s1 := f
      exact same (f.trans e)
    · exfalso
      rw [c36] at b2
      omega
  · have e : s1 = σ := e
    rcases w2 with ⟨f0, f, -, b1⟩ | ⟨f0, f, -, b1, b2, b3⟩ | ⟨f0, f, -, b1, b2⟩
    · have f : s2 = s1 := f
      exact same (f.trans e)
    · have f : s2 = s1 := f
      exact same (f.trans e)
    · exfalso
      rw [c36] at b2
      have kk := kq b1
      exact a3 (by omega)
  · have e : s1 = _ := e
    have kk := kq a1
    have hc := h.2.2.2 j hj (by unfold isC; omega)
    rcases w2 with ⟨f0, f, -, b1⟩ | ⟨f0, f, -, b1, b2, b3⟩ | ⟨f0, f, -, b1, b2⟩
    · exfalso
      rw [c36] at b1
      omega
    · exfalso
      rw [c36] at b3
      omega
    · have f : s2 = _ := f
      have hcm : ∀ k, 35 ≤ k → k < 80 → s1 k = σ k := hcf
      have k37 : s2 37 j = σ 37 j := by rw [f]; (repeat (first | rw [up2_o (by omega)] | rw [up2_n (by omega)] | rw [up2_s])); rw [hcm 37 (by omega) (by omega)]
      have k38 : s2 38 j = σ 38 j := by rw [f]; (repeat (first | rw [up2_o (by omega)] | rw [up2_n (by omega)] | rw [up2_s])); rw [hcm 38 (by omega) (by omega)]
      have k45 : s2 45 j = σ 45 j := by rw [f]; (repeat (first | rw [up2_o (by omega)] | rw [up2_n (by omega)] | rw [up2_s])); rw [hcm 45 (by omega) (by omega)]
      have k46 : s2 46 j = σ 46 j := by rw [f]; (repeat (first | rw [up2_o (by omega)] | rw [up2_n (by omega)] | rw [up2_s])); rw [hcm 46 (by omega) (by omega)]
      have k41 : s2 41 j = 0 := by rw [f]; (repeat (first | rw [up2_o (by omega)] | rw [up2_n (by omega)] | rw [up2_s]))
      have k43 : s2 43 j = σ 35 29 := by rw [f]; (repeat (first | rw [up2_o (by omega)] | rw [up2_n (by omega)] | rw [up2_s])); exact c29
      have k44 : s2 44 j = -9 := by rw [f]; (repeat (first | rw [up2_o (by omega)] | rw [up2_n (by omega)] | rw [up2_s]))
      have k29 : s2 35 29 = σ 35 29 := by rw [f]; (repeat (first | rw [up2_o (by omega)] | rw [up2_n (by omega)] | rw [up2_s])); exact c29
      unfold CK6 R9 at hc ⊢
      rw [k37, k38, k41, k43, k44, k45, k46, k29]
      refine ⟨⟨?_, hc.1.2⟩, ⟨?_, hc.2.1.2⟩, ⟨?_, by omega, by omega⟩, ?_, Or.inr ⟨?_, by decide⟩, ?_, ?_, fun z => absurd z (by decide)⟩
      · rw [f, e]; (repeat (first | rw [up2_o (by omega)] | rw [up2_n (by omega)] | rw [up2_s])); exact hc.1.1
      · rw [f, e]; (repeat (first | rw [up2_o (by omega)] | rw [up2_n (by omega)] | rw [up2_s])); exact hc.2.1.1
      · rw [f, e]; (repeat (first | rw [up2_o (by omega)] | rw [up2_n (by omega)] | rw [up2_s])); exact hw
      · rw [f, e]; (repeat (first | rw [up2_o (by omega)] | rw [up2_n (by omega)] | rw [up2_s]))
      · rw [f, e]; (repeat (first | rw [up2_o (by omega)] | rw [up2_n (by omega)] | rw [up2_s])); decide
      · rw [f, e]; (repeat (first | rw [up2_o (by omega)] | rw [up2_n (by omega)] | rw [up2_s])); exact hc.2.2.2.2.2.1
      · rw [f, e]; (repeat (first | rw [up2_o (by omega)] | rw [up2_n (by omega)] | rw [up2_s])); exact hc.2.2.2.2.2.2.1
theorem rel6_set (h : Rel6 σ) (w : po_X9_set σ τ wa xa v (s1, t1)) (w2 : po_X10_set s1 t1 wa xa v2 (s2, t2)) : Rel6 s2 := by
  have h' := h
  obtain ⟨h1, ⟨h2, h3⟩, h4, h5⟩ := h
  rcases w with ⟨e0, e, -, a1, a2⟩ | ⟨e0, e, -, a1, a2⟩ | ⟨e0, e, -, a1, a2⟩ | ⟨e0, e, -, a1, a2, a3⟩ <;>
  rcases w2 with ⟨f0, f, -, b1, b2⟩ | ⟨f0, f, -, b1, b2⟩ | ⟨f0, f, -, b1, b2⟩ | ⟨f0, f, -, b1, b2, b3⟩ <;>
  first
  | (exfalso; omega)
  | (have e : s1 = σ := e
     have f : s2 = s1 := f
     rw [f, e]
     exact h')
  | (have e : s1 = _ := e
     have f : s2 = _ := f
     have t : T6x σ s2 := ⟨fun k hk => by rw [f, up2_ne (by omega), e, up2_ne (by omega)], by rw [f, up2_n (by decide), e, up2_o (by decide)], by rw [f, up2_n (by decide), e, up2_o (by decide)]⟩
     have g : ∀ k, k ≠ 0 → k ≠ 35 → s2 k = σ k := fun k a b => by rw [f, up2_ne b, e, up2_ne a]
     refine ⟨h1.ex t, ⟨?_, ?_⟩, h4.ex (g 47 (by decide) (by decide)) (g 48 (by decide) (by decide)) (g 49 (by decide) (by decide)), fun q hq hk => ?_⟩
     · rw [f, e]
       (repeat (first | rw [up2_o (by omega)] | rw [up2_n (by omega)] | rw [up2_s]))
       all_goals first | rfl | assumption
     · rw [f, e]
       (repeat (first | rw [up2_o (by omega)] | rw [up2_n (by omega)] | rw [up2_s]))
       all_goals first | rfl | assumption
     · have g36 := g 36 (by decide) (by decide)
       unfold isC at hk
       rw [g36] at hk
       exact (h5 q hq hk).ex ⟨fun i hi => by rw [g (80 + q) (by omega) (by omega)], fun k hk => by rw [g k (by omega) (by omega)]⟩ t)
theorem rel6_show (h : Rel6 σ) (w : po_X9_show σ τ xa v (s1, t1)) (w2 : po_X10_show s1 t1 xa v2 (s2, t2)) : Rel6 s2 := by
  have h' := h
  obtain ⟨h1, ⟨h2, h3⟩, h4, h5⟩ := h
  rcases w with ⟨e0, e, -, a1⟩ | ⟨e0, e, -, a1, a2⟩ <;> rcases w2 with ⟨f0, f, -, b1⟩ | ⟨f0, f, -, b1, b2⟩ <;>
  first
  | (exfalso; omega)
  | (have e : s1 = σ := e
     have f : s2 = s1 := f
     rw [f, e]
     exact h')
  | (have e : s1 = _ := e
     have f : s2 = _ := f
     have t : T6x σ s2 := ⟨fun k hk => by rw [f, up2_ne (by omega), e, up2_ne (by omega)], by rw [f, up2_n (by decide), e, up2_o (by decide)], by rw [f, up2_n (by decide), e, up2_o (by decide)]⟩
     have g : ∀ k, k ≠ 0 → k ≠ 35 → s2 k = σ k := fun k a b => by rw [f, up2_ne b, e, up2_ne a]
     refine ⟨h1.ex t, ⟨?_, ?_⟩, h4.ex (g 47 (by decide) (by decide)) (g 48 (by decide) (by decide)) (g 49 (by decide) (by decide)), fun q hq hk => ?_⟩
     · rw [f, e]
       (repeat (first | rw [up2_o (by omega)] | rw [up2_n (by omega)] | rw [up2_s]))
       all_goals first | rfl | assumption
     · rw [f, e]
       (repeat (first | rw [up2_o (by omega)] | rw [up2_n (by omega)] | rw [up2_s]))
       all_goals first | rfl | assumption
     · have g36 := g 36 (by decide) (by decide)
       unfold isC at hk
       rw [g36] at hk
       exact (h5 q hq hk).ex ⟨fun i hi => by rw [g (80 + q) (by omega) (by omega)], fun k hk => by rw [g k (by omega) (by omega)]⟩ t)
end REL6K
