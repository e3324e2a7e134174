/-! ===== who is PRESENT: both sides count the same ===== -/
def CG (σ σ1 : SI) : Prop := Fr (fun k => (5 ≤ k ∧ k ≤ 11) ∨ (18 ≤ k ∧ k ≤ 20) ∨ (24 ≤ k ∧ k ≤ 34) ∨ (80 ≤ k ∧ k < 104)) σ σ1 ∧ ∀ q j, q < 24 → (j < 7 ∨ j = 8) → σ1 (80 + q) j = σ (80 + q) j
theorem CG.rf {σ : SI} : CG σ σ := ⟨Fr.rf, fun _ _ _ _ => rfl⟩
theorem CG.tr {σ σ1 σ2 : SI} (h : CG σ σ1) (h2 : CG σ1 σ2) : CG σ σ2 := ⟨h.1.tr h2.1, fun q j hq hj => (h2.2 q j hq hj).trans (h.2 q j hq hj)⟩
theorem CG.fr {S : Nat → Prop} {σ σ1 : SI} (h : Fr S σ σ1) (hS : ∀ k, S k → (5 ≤ k ∧ k ≤ 11) ∨ (18 ≤ k ∧ k ≤ 20) ∨ (24 ≤ k ∧ k ≤ 34)) : CG σ σ1 :=
  ⟨h.mo (fun k hk => by have := hS k hk; omega), fun q j hq _ => by rw [h (80 + q) (fun hs => by have := hS _ hs; omega)]⟩
theorem CG.up {σ σ1 : SI} {k j : Nat} {x : Int32} (h : CG σ σ1) (hk : (5 ≤ k ∧ k ≤ 11) ∨ (18 ≤ k ∧ k ≤ 20) ∨ (24 ≤ k ∧ k ≤ 34)) : CG σ (up2 σ1 k j x) := h.tr (CG.fr (S := fun k' => k' = k) (Fr.rf.up rfl) (fun k' hk' => by rw [hk']; exact hk))
theorem CG.upc {σ σ1 : SI} {q j : Nat} {x : Int32} (h : CG σ σ1) (hq : q < 24) (hj : j = 7 ∨ 9 ≤ j) : CG σ (up2 σ1 (80 + q) j x) := by
  refine h.tr ⟨Fr.rf.up (by omega), fun q' j' hq' hj' => ?_⟩
  by_cases e : q' = q
  · subst e
    exact up2_n (by omega)
  · exact up2_o (by omega)
theorem CG.fore {σ σ1 : SI} (h : Fr (fun k => 18 ≤ k ∧ k ≤ 20) σ σ1) : CG σ σ1 := CG.fr h (fun k hk => by omega)
theorem CG.cf {σ σ1 : SI} (h : CG σ σ1) : CF σ σ1 := ⟨h.1.mo (fun k hk => by omega), h.2⟩
def TkC (σ : SI) (p : Nat) : Prop := 0 ≤ (σ 2 p).toInt ∧ (σ 2 p).toInt ≤ 3 ∧ (σ (80 + p) 5).toInt ≠ 0 ∧ ((σ (80 + p) 1).toInt ≠ 3 ∨ (σ (80 + p) 6).toInt ≠ 0)
def TkM (σ : SI) (p : Nat) : Prop := 0 ≤ (σ 36 p).toInt ∧ (σ 36 p).toInt ≤ 3 ∧ (σ 39 p).toInt ≠ 0 ∧ ((σ 36 p).toInt ≠ 3 ∨ (σ 40 p).toInt ≠ 0)
theorem tk_cf {σ s : SI} {p : Nat} (h : CF σ s) (hp : p < 24) (t : TkC s p) : TkC σ p := by
  unfold TkC at t ⊢
  rw [h.1 2 (by omega), h.2 p 5 hp (by omega), h.2 p 1 hp (by omega), h.2 p 6 hp (by omega)] at t
  exact t
theorem tk_cf' {σ s : SI} {p : Nat} (h : CF σ s) (hp : p < 24) (t : TkC σ p) : TkC s p := by
  unfold TkC at t ⊢
  rw [h.1 2 (by omega), h.2 p 5 hp (by omega), h.2 p 1 hp (by omega), h.2 p 6 hp (by omega)]
  exact t
def CntR (P Q : Nat → Prop) (b : Int32) : Nat → Int32 → Prop
  | 0, v => v = b
  | n + 1, v => ∃ w, CntR P Q b n w ∧ ((P n ∧ v = w + 1) ∨ (Q n ∧ v = w))
theorem CntR.z {P Q : Nat → Prop} {b : Int32} : CntR P Q b 0 b := rfl
theorem CntR.p {P Q : Nat → Prop} {b w v : Int32} {n : Nat} (h : CntR P Q b n w) (hp : P n) (e : v = w + 1) : CntR P Q b (n + 1) v := ⟨w, h, Or.inl ⟨hp, e⟩⟩
theorem CntR.q {P Q : Nat → Prop} {b w : Int32} {n : Nat} (h : CntR P Q b n w) (hq : Q n) : CntR P Q b (n + 1) w := ⟨w, h, Or.inr ⟨hq, rfl⟩⟩
theorem CntR.mo {P Q P' Q' : Nat → Prop} {b : Int32} : ∀ (n : Nat) {v : Int32}, (∀ p, p < n → P p → P' p) → (∀ p, p < n → Q p → Q' p) → CntR P Q b n v → CntR P' Q' b n v
  | 0, _, _, _, h => h
  | n + 1, _, hp, hq, h => by
    obtain ⟨w, h1, h2⟩ := h
    refine ⟨w, CntR.mo n (fun p h => hp p (by omega)) (fun p h => hq p (by omega)) h1, ?_⟩
    rcases h2 with ⟨a, b⟩ | ⟨a, b⟩
    · exact Or.inl ⟨hp n (by omega) a, b⟩
    · exact Or.inr ⟨hq n (by omega) a, b⟩
theorem CntR.u {P Q P' Q' : Nat → Prop} {b : Int32} : ∀ (n : Nat) {v v' : Int32}, (∀ p, p < n → P p → Q' p → False) → (∀ p, p < n → Q p → P' p → False) → CntR P Q b n v → CntR P' Q' b n v' → v = v'
  | 0, _, _, _, _, h, h' => Eq.trans h (Eq.symm h')
  | n + 1, _, _, hp, hq, h, h' => by
    obtain ⟨w, h1, h2⟩ := h
    obtain ⟨w', h1', h2'⟩ := h'
    have e := CntR.u n (fun p h => hp p (by omega)) (fun p h => hq p (by omega)) h1 h1'
    subst e
    rcases h2 with ⟨a, b⟩ | ⟨a, b⟩ <;> rcases h2' with ⟨a', b'⟩ | ⟨a', b'⟩
    · rw [b, b']
    · exact (hp n (by omega) a a').elim
    · exact (hq n (by omega) a a').elim
    · rw [b, b']
theorem BQ.ex {U : Nat → Prop} {x y : Nat → Nat} {tl : Nat → Int32} {a T : Nat} {s s' : SI} (h : BQ U x y tl a T s) (e : ∀ k, 12 ≤ k → k ≤ 17 → s' k = s k) : BQ U x y tl a T s' := by
  unfold BQ
  rw [e 12 (by omega) (by omega), e 13 (by omega) (by omega), e 14 (by omega) (by omega), e 15 (by omega) (by omega)]
  exact h
abbrev PC (σ s : SI) (p : Nat) : Prop := TkC σ p ∧ (s 14 p).toInt ≠ -1
abbrev QC (σ s : SI) (p : Nat) : Prop := ¬ TkC σ p ∨ (s 14 p).toInt = -1
def HI (σ s : SI) (rq : Nat) (hr : Int32) (n : Nat) : Prop :=
  ∀ (U : Nat → Prop) (x y : Nat → Nat) (tl : Nat → Int32), LV σ hr U x y tl → ∃ m : Nat, BQ U x y tl rq (24 * m) s ∧ (s 12 6).toInt = (m : Int) ∧ CntR (PC σ s) (QC σ s) (σ 21 6) n (s 21 6)
theorem HI.st {σ s : SI} {rq : Nat} {hr : Int32} (h : SPD σ s (nI rq) hr) (hrq : rq < 24) (r : Fr (fun k => 12 ≤ k ∧ k ≤ 17) σ s) : HI σ s rq hr 0 := by
  intro U x y tl hL
  have e : (nI rq).toInt = (rq : Int) := nI_T rq (by omega)
  obtain ⟨m, a1, a2⟩ := h U x y tl hL (by omega) (by omega)
  rw [e, Int.toNat_natCast] at a1
  exact ⟨m, a1, a2, congrFun (r 21 (by omega)) 6⟩
theorem HI.mv {σ s s' : SI} {rq n : Nat} {hr : Int32} (h : HI σ s rq hr n) (hk : ∀ k, 12 ≤ k → k ≤ 17 → s' k = s k) : ∀ (U : Nat → Prop) (x y : Nat → Nat) (tl : Nat → Int32), LV σ hr U x y tl → ∃ m : Nat, BQ U x y tl rq (24 * m) s' ∧ (s' 12 6).toInt = (m : Int) ∧ CntR (PC σ s') (QC σ s') (σ 21 6) n (s 21 6) := by
  intro U x y tl hL
  obtain ⟨m, a1, a2, a3⟩ := h U x y tl hL
  refine ⟨m, a1.ex hk, by rw [hk 12 (by omega) (by omega)]; exact a2, ?_⟩
  have e : s' 14 = s 14 := hk 14 (by omega) (by omega)
  exact CntR.mo n (fun p _ t => ⟨t.1, by rw [e]; exact t.2⟩) (fun p _ t => t.elim Or.inl (fun t => Or.inr (by rw [e]; exact t))) a3
theorem HI.sk {σ s s' : SI} {rq n : Nat} {hr : Int32} (h : HI σ s rq hr n) (hcf : CF σ s') (hn : n < 24) (hk : ∀ k, 12 ≤ k → k ≤ 17 → s' k = s k) (h21 : s' 21 6 = s 21 6) (hq : ¬ TkC s' n ∨ (s' 14 n).toInt = -1) : HI σ s' rq hr (n + 1) := by
  intro U x y tl hL
  obtain ⟨m, a1, a2, a3⟩ := h.mv hk U x y tl hL
  refine ⟨m, a1, a2, ?_⟩
  rw [h21]
  exact a3.q (hq.elim (fun t => Or.inl (fun u => t (tk_cf' hcf hn u))) Or.inr)
theorem HI.ad {σ s s' : SI} {rq n : Nat} {hr : Int32} (h : HI σ s rq hr n) (hk : ∀ k, 12 ≤ k → k ≤ 17 → s' k = s k) (h21 : s' 21 6 = s 21 6 + 1) (htk : TkC σ n) (h14 : (s 14 n).toInt ≠ -1) : HI σ s' rq hr (n + 1) := by
  intro U x y tl hL
  obtain ⟨m, a1, a2, a3⟩ := h.mv hk U x y tl hL
  exact ⟨m, a1, a2, a3.p ⟨htk, by rw [hk 14 (by omega) (by omega)]; exact h14⟩ h21⟩
def CHV (σ : SI) (hr v : Int32) : Prop :=
  (v = 0 ∧ ∀ p, p < 24 → ¬ TkC σ p) ∨ ∃ r, r < 24 ∧ (TkC σ r ∧ ∀ i, i < r → ¬ TkC σ i) ∧ ∀ (U : Nat → Prop) (x y : Nat → Nat) (tl : Nat → Int32), LV σ hr U x y tl → ∃ (s : SI) (m : Nat), BQ U x y tl r (24 * m) s ∧ (s 12 6).toInt = (m : Int) ∧ CntR (PC σ s) (QC σ s) 0 24 v
theorem tk_21 {σ s : SI} {p : Nat} (hs : s = up2 σ 21 6 0) : TkC s p ↔ TkC σ p := by
  rw [hs]
  unfold TkC
  rw [up2_ne (show (2 : Nat) ≠ 21 by omega), up2_ne (show 80 + p ≠ 21 by omega)]
theorem LV.u21 {σ s : SI} {hr : Int32} {U : Nat → Prop} {x y : Nat → Nat} {tl : Nat → Int32} (hs : s = up2 σ 21 6 0) (h : LV σ hr U x y tl) : LV s hr U x y tl := fun l hl => by
  have g := h l hl
  have e : toldC s l hr = toldC σ l hr := by
    unfold toldC
    rw [hs, up2_ne (show 128 + l ≠ 21 by omega), up2_ne (show 152 + l ≠ 21 by omega), up2_ne (show 104 + l ≠ 21 by omega)]
  rw [e, hs, up2_ne (show (2 : Nat) ≠ 21 by omega), up2_ne (show 104 + l ≠ 21 by omega)]
  exact g
theorem CHV.z {σ s : SI} {hr : Int32} (hs : s = up2 σ 21 6 0) (h : ∀ p, p < 24 → ¬ TkC s p) : CHV σ hr (s 21 6) :=
  Or.inl ⟨by rw [hs, up2_s], fun p hp t => h p hp ((tk_21 hs).mpr t)⟩
theorem CHV.r {σ s s1 : SI} {hr v : Int32} {j : Nat} (hs : s = up2 σ 21 6 0) (hj : j < 24) (h : TkC s j ∧ ∀ i, i < j → ¬ TkC s i) (f : HI s s1 j hr 24) (e : v = s1 21 6) : CHV σ hr v := by
  refine Or.inr ⟨j, hj, ⟨(tk_21 hs).mp h.1, fun i hi t => h.2 i hi ((tk_21 hs).mpr t)⟩, fun U x y tl hL => ?_⟩
  obtain ⟨m, a1, a2, a3⟩ := f U x y tl (hL.u21 hs)
  refine ⟨s1, m, a1, a2, ?_⟩
  rw [e]
  have e0 : s 21 6 = 0 := by rw [hs, up2_s]
  rw [e0] at a3
  exact CntR.mo 24 (fun p _ t => ⟨(tk_21 hs).mp t.1, t.2⟩) (fun p _ t => t.elim (fun t => Or.inl (fun u => t ((tk_21 hs).mpr u))) Or.inr) a3
/-! the reference's -/
def K6 (σ s : SI) : Prop := (∀ k, (36 ≤ k ∧ k ≤ 40) ∨ (47 ≤ k ∧ k ≤ 51) → s k = σ k) ∧ s 35 29 = σ 35 29
theorem TkM_x {σ s : SI} {p : Nat} (h : K6 σ s) : TkM s p ↔ TkM σ p := by
  unfold TkM
  rw [h.1 36 (by omega), h.1 39 (by omega), h.1 40 (by omega)]
theorem GO_x {σ s s2 : SI} {xa ya hr v : Int32} {hq : Nat} (h : K6 σ s) (g : GO s s2 xa ya hr hq v) : GO σ s2 xa ya hr hq v := by
  have e : ∀ l, toldM s l hr hq = toldM σ l hr hq := fun l => by
    unfold toldM
    rw [h.1 36 (by omega), h.1 47 (by omega), h.1 48 (by omega), h.1 49 (by omega), h.1 50 (by omega), h.1 51 (by omega), h.2]
  have e1 : UM s hr hq = UM σ hr hq := by
    funext l
    unfold UM
    rw [e, h.1 36 (by omega)]
  have e2 : xM s = xM σ := by
    funext l
    unfold xM
    rw [h.1 37 (by omega)]
  have e3 : yM s = yM σ := by
    funext l
    unfold yM
    rw [h.1 38 (by omega)]
  have e4 : (fun l => toldM s l hr hq) = (fun l => toldM σ l hr hq) := funext e
  unfold GO at g ⊢
  rw [e1, e2, e3, e4] at g
  exact g
def PM (σ : SI) (ra : Int32) (p : Nat) : Prop := TkM σ p ∧ ∃ s2, GO σ s2 (nI p) ra (σ 35 29) (σ 35 29).toInt.toNat 1
def QM (σ : SI) (ra : Int32) (p : Nat) : Prop := ¬ TkM σ p ∨ ∃ s2, GO σ s2 (nI p) ra (σ 35 29) (σ 35 29).toInt.toNat 0
theorem pm_mk {σ s s2 : SI} {ra : Int32} {p : Nat} (h : K6 σ s) (t : TkM s p) (g : GO s s2 (nI p) ra (s 35 29) (s 35 29).toInt.toNat 1) : PM σ ra p := by
  rw [h.2] at g
  exact ⟨(TkM_x h).mp t, s2, GO_x h g⟩
theorem qm_0 {σ s : SI} {ra : Int32} {p : Nat} (h : K6 σ s) (t : ¬ TkM s p) : QM σ ra p := Or.inl (fun u => t ((TkM_x h).mpr u))
theorem qm_1 {σ s s2 : SI} {ra : Int32} {p : Nat} (h : K6 σ s) (g : GO s s2 (nI p) ra (s 35 29) (s 35 29).toInt.toNat 0) : QM σ ra p := by
  rw [h.2] at g
  exact Or.inr ⟨s2, GO_x h g⟩
def RTL (σ : SI) (t x1 : Int32) : Prop := (x1.toInt = -1 ∧ ∀ q : Nat, t.toInt < (q : Int) → q < 24 → ¬ TkM σ q) ∨ (t.toInt < x1.toInt ∧ 0 ≤ x1.toInt ∧ x1.toInt < 24 ∧ TkM σ x1.toInt.toNat ∧ ∀ q : Nat, t.toInt < (q : Int) → (q : Int) < x1.toInt → ¬ TkM σ q)
theorem RTL.st {σ : SI} {t x1 : Int32} (h1 : x1.toInt = -1) (h2 : t.toInt = 23) : RTL σ t x1 := Or.inl ⟨h1, fun q a b => by omega⟩
theorem RTL.tk {σ : SI} {t x1 t' : Int32} (h : RTL σ t x1) (e : t'.toInt = t.toInt - 1) (h0 : 0 ≤ t.toInt ∧ t.toInt < 24) (k : TkM σ t.toInt.toNat) : RTL σ t' t := Or.inr ⟨by omega, h0.1, h0.2, k, fun q a b => by omega⟩
theorem RTL.sk {σ : SI} {t x1 t' : Int32} (h : RTL σ t x1) (e : t'.toInt = t.toInt - 1) (h0 : 0 ≤ t.toInt ∧ t.toInt < 24) (k : ¬ TkM σ t.toInt.toNat) : RTL σ t' x1 := by
  have key : ∀ q : Nat, t'.toInt < (q : Int) → ¬ t.toInt < (q : Int) → ¬ TkM σ q := fun q a b => by
    have eq : q = t.toInt.toNat := by omega
    rw [eq]
    exact k
  rcases h with ⟨a1, a2⟩ | ⟨a1, a2, a3, a4, a5⟩
  · refine Or.inl ⟨a1, fun q b1 b2 => ?_⟩
    by_cases z : t.toInt < (q : Int)
    · exact a2 q z b2
    · exact key q b1 z
  · refine Or.inr ⟨by omega, a2, a3, a4, fun q b1 b2 => ?_⟩
    by_cases z : t.toInt < (q : Int)
    · exact a5 q z b2
    · exact key q b1 z
def RTM (σ : SI) (v : Int32) : Prop := (v.toInt = -1 ∧ ∀ q, q < 24 → ¬ TkM σ q) ∨ (0 ≤ v.toInt ∧ v.toInt < 24 ∧ TkM σ v.toInt.toNat ∧ ∀ q, q < v.toInt.toNat → ¬ TkM σ q)
theorem RTL.nd {σ : SI} {t x1 : Int32} (h : RTL σ t x1) (e : t.toInt < 0) : RTM σ x1 := by
  rcases h with ⟨a1, a2⟩ | ⟨a1, a2, a3, a4, a5⟩
  · exact Or.inl ⟨a1, fun q hq => a2 q (by omega) hq⟩
  · exact Or.inr ⟨a2, a3, a4, fun q hq => a5 q (by omega) (by omega)⟩
def CMV (σ : SI) (v : Int32) : Prop := (v = 0 ∧ ∀ q, q < 24 → ¬ TkM σ q) ∨ ∃ r : Int32, 0 ≤ r.toInt ∧ r.toInt < 24 ∧ (TkM σ r.toInt.toNat ∧ ∀ q, q < r.toInt.toNat → ¬ TkM σ q) ∧ CntR (PM σ r) (QM σ r) 0 24 v
theorem CMV.z {σ s : SI} {r : Int32} (h : K6 σ s) (f : RTM s r) (e : r.toInt = -1) : CMV σ 0 := by
  rcases f with ⟨a1, a2⟩ | ⟨a1, -⟩
  · exact Or.inl ⟨rfl, fun q hq t => a2 q hq ((TkM_x h).mpr t)⟩
  · exfalso; omega
theorem CMV.r {σ s s' : SI} {r v : Int32} (h : K6 σ s) (h' : K6 σ s') (f : RTM s r) (e : r.toInt ≠ -1) (g : CntR (PM s' r) (QM s' r) 0 24 v) : CMV σ v := by
  rcases f with ⟨a1, -⟩ | ⟨a1, a2, a3, a4⟩
  · exact absurd a1 e
  · refine Or.inr ⟨r, a1, a2, ⟨(TkM_x h).mp a3, fun q hq t => a4 q hq ((TkM_x h).mpr t)⟩, CntR.mo 24 (fun p _ t => ?_) (fun p _ t => ?_) g⟩
    · obtain ⟨t1, s2, t2⟩ := t
      exact pm_mk h' t1 t2
    · rcases t with t | ⟨s2, t⟩
      · exact qm_0 h' t
      · exact qm_1 h' t
theorem K6.mr {S J : Nat → Prop} {σ s : SI} (r : MRel S J σ s) (hS : ∀ k, (36 ≤ k ∧ k ≤ 40) ∨ (47 ≤ k ∧ k ≤ 51) → ¬ S k) (e : (s 35 29).toInt = (σ 35 29).toInt) : K6 σ s := ⟨fun k hk => r.1 k (by omega) (hS k hk), Int32.toInt_inj.mp e⟩

abbrev po4_X6_add (σ : SI) (τ : SL) (hr : Int32) (pl : Int32) (xa : Int32) : SI × SL → Prop := fun u => ((CG σ u.1))
set_option maxRecDepth 100000 in
set_option maxHeartbeats 4000000 in
theorem c4_X6_add (l : Launch) {G : Gx} {A : Nat → Prop} (hG : GOk G A) (σ : SI) (τ : SL) (hr : Int32) (pl : Int32) (xa : Int32) : MV l G A 0 yX6_add cX6_add 4 none [.ref (G.2.1 8), .int hr, .int pl, .int xa] (σ, τ) (po4_X6_add σ τ hr pl xa) := by
  refine met_of (own := RX6) (by decide +kernel) rfl [(0, .ref (G.2.1 8)), (1, .int hr), (2, .int pl), (3, .int xa)] rfl (Nat.le_of_ble_eq_true rfl) ?_
  intro p e s m args below meth c ls hC hK hR hl
  have hS : va_S A s.heap s.heap [] := va_S.rf
  refine lv_aload_n hC.x hC.b dX6_add_0 rfl (lv_at hl 0 rfl) ?_
  refine rget hC hK hR (ct_steps G _ _) rfl uin_X6 3 (by decide) TF_X6_21 rfl dX6_add_1 ?_
  refine bz_lt (tgt := 16) (a := (σ 8 3).toInt) (b := 0) hC.x hC.b rfl rfl dX6_add_4 (by decide) (fun c_1 => ?_) (fun c_1 => ?_)
  · skip
    exact retv hC hK hR hS (by exact CG.rf) dX6_add_16
  · skip
    refine lv_aload_n hC.x hC.b dX6_add_7 rfl (lv_at hl 0 rfl) ?_
    refine rget hC hK hR (ct_steps G _ _) rfl uin_X6 3 (by decide) TF_X6_21 rfl dX6_add_8 ?_
    refine lv_bipush (v := 100) hC.x hC.b dX6_add_11 (by decide) ?_
    refine bi_lt (tgt := 17) (a := (σ 8 3).toInt) (b := 100) hC.x hC.b rfl rfl dX6_add_13 (by decide) (fun c_2 => ?_) (fun c_2 => ?_)
    · skip
      refine lv_aload_n hC.x hC.b dX6_add_17 rfl (lv_at hl 0 rfl) ?_
      refine rget hC hK hR (ct_steps G _ _) rfl uin_X6 0 (by decide) TF_X6_9 rfl dX6_add_18 ?_
      refine lv_aload_n hC.x hC.b dX6_add_21 rfl (lv_at hl 0 rfl) ?_
      refine rget hC hK hR (ct_steps G _ _) rfl uin_X6 3 (by decide) TF_X6_21 rfl dX6_add_22 ?_
      refine lv_iload_n hC.x hC.b dX6_add_25 rfl (lv_at hl 1 rfl) ?_
      refine ast hC hK hG hR hS (fun _ => ct_hours G _ _) rfl (by omega) (by omega) rfl dX6_add_26 (fun s_3 es_4 H locs hR hS => ?_)
      refine lv_aload_n hC.x hC.b dX6_add_27 rfl (lv_at hl 0 rfl) ?_
      refine rget hC hK hR (ct_steps G _ _) rfl uin_X6 1 (by decide) TF_X6_15 rfl dX6_add_28 ?_
      refine lv_aload_n hC.x hC.b dX6_add_31 rfl (lv_at hl 0 rfl) ?_
      refine rget hC hK hR (ct_steps G _ _) rfl uin_X6 3 (by decide) TF_X6_21 rfl dX6_add_32 ?_
      have rd_5 : (s_3 8 3).toInt = (σ 8 3).toInt := congrArg Int32.toInt (show s_3 8 3 = σ 8 3 from (by rw [es_4]; exact up2_o (by omega)))
      refine lv_iload_n hC.x hC.b dX6_add_35 rfl (lv_at hl 2 rfl) ?_
      refine ast hC hK hG hR hS (fun _ => ct_places G _ _) rfl (by omega) (by omega) rfl dX6_add_36 (fun s_6 es_7 H locs hR hS => ?_)
      refine lv_aload_n hC.x hC.b dX6_add_37 rfl (lv_at hl 0 rfl) ?_
      refine rget hC hK hR (ct_steps G _ _) rfl uin_X6 2 (by decide) TF_X6_18 rfl dX6_add_38 ?_
      refine lv_aload_n hC.x hC.b dX6_add_41 rfl (lv_at hl 0 rfl) ?_
      refine rget hC hK hR (ct_steps G _ _) rfl uin_X6 3 (by decide) TF_X6_21 rfl dX6_add_42 ?_
      have rd_8 : (s_6 8 3).toInt = (σ 8 3).toInt := congrArg Int32.toInt (Eq.trans (show s_6 8 3 = s_3 8 3 from (by rw [es_7]; exact up2_o (by omega))) (show s_3 8 3 = σ 8 3 from (by rw [es_4]; exact up2_o (by omega))))
      refine lv_iload_n hC.x hC.b dX6_add_45 rfl (lv_at hl 3 rfl) ?_
      refine ast hC hK hG hR hS (fun _ => ct_misses G _ _) rfl (by omega) (by omega) rfl dX6_add_46 (fun s_9 es_10 H locs hR hS => ?_)
      refine lv_aload_n hC.x hC.b dX6_add_47 rfl (lv_at hl 0 rfl) ?_
      refine lv_dup hC.x hC.b dX6_add_48 rfl ?_
      refine rget hC hK hR (ct_steps G _ _) rfl uin_X6 3 (by decide) TF_X6_21 rfl dX6_add_49 ?_
      have rd_11 : (s_9 8 3).toInt = (σ 8 3).toInt := congrArg Int32.toInt (Eq.trans (show s_9 8 3 = s_6 8 3 from (by rw [es_10]; exact up2_o (by omega))) (Eq.trans (show s_6 8 3 = s_3 8 3 from (by rw [es_7]; exact up2_o (by omega))) (show s_3 8 3 = σ 8 3 from (by rw [es_4]; exact up2_o (by omega)))))
      refine lv_iconst (v := 1) hC.x hC.b dX6_add_52 (by decide) ?_
      refine lv_iadd hC.x hC.b dX6_add_53 ?_
      refine rputi hC hK hG hR hS (ct_steps G _ _) rfl uin_X6 tyX6 tyX6_ok nmX6 3 (by decide) TF_X6_21 rfl (Or.inl rfl) (Nat.le_of_ble_eq_true rfl) rfl (ct_steps G _ _) dX6_add_54 (fun s_13 es_12 H locs hR hS => ?_)
      exact retv hC hK hR hS (by exact (by rw [es_12]; exact CG.up ((by rw [es_10]; exact CG.up ((by rw [es_7]; exact CG.up ((by rw [es_4]; exact CG.up (CG.rf) (by omega))) (by omega))) (by omega))) (by omega))) dX6_add_57
    · skip
      exact retv hC hK hR hS (by exact CG.rf) dX6_add_16

abbrev po4_X7_tell (σ : SI) (τ : SL) (wa : Int32) (hr : Int32) (pl : Int32) (xa : Int32) : SI × SL → Prop := fun u => ((CG σ u.1))
set_option maxRecDepth 100000 in
set_option maxHeartbeats 4000000 in
theorem c4_X7_tell (l : Launch) {G : Gx} {A : Nat → Prop} (hG : GOk G A) (σ : SI) (τ : SL) (wa : Int32) (hr : Int32) (pl : Int32) (xa : Int32) : MV l G A 0 yX7_tell cX7_tell 5 none [.ref (G.2.1 5), .int wa, .int hr, .int pl, .int xa] (σ, τ) (po4_X7_tell σ τ wa hr pl xa) := by
  refine met_of (own := RX7) (by decide +kernel) rfl [(0, .ref (G.2.1 5)), (1, .int wa), (2, .int hr), (3, .int pl), (4, .int xa)] rfl (Nat.le_of_ble_eq_true rfl) ?_
  intro p e s m args below meth c ls hC hK hR hl
  have hS : va_S A s.heap s.heap [] := va_S.rf
  refine lv_iload_n hC.x hC.b dX7_tell_0 rfl (lv_at hl 1 rfl) ?_
  refine bz_lt (tgt := 45) (a := wa.toInt) (b := 0) hC.x hC.b rfl rfl dX7_tell_1 (by decide) (fun c_1 => ?_) (fun c_1 => ?_)
  · skip
    exact retv hC hK hR hS (by exact CG.rf) dX7_tell_45
  · skip
    refine lv_iload_n hC.x hC.b dX7_tell_4 rfl (lv_at hl 1 rfl) ?_
    refine lv_iconst (v := 5) hC.x hC.b dX7_tell_5 (by decide) ?_
    refine bi_ge (tgt := 45) (a := wa.toInt) (b := 5) hC.x hC.b rfl rfl dX7_tell_6 (by decide) (fun c_2 => ?_) (fun c_2 => ?_)
    · skip
      exact retv hC hK hR hS (by exact CG.rf) dX7_tell_45
    · skip
      refine lv_iload_n hC.x hC.b dX7_tell_9 rfl (lv_at hl 2 rfl) ?_
      refine bz_lt (tgt := 45) (a := hr.toInt) (b := 0) hC.x hC.b rfl rfl dX7_tell_10 (by decide) (fun c_3 => ?_) (fun c_3 => ?_)
      · skip
        exact retv hC hK hR hS (by exact CG.rf) dX7_tell_45
      · skip
        refine lv_iload_n hC.x hC.b dX7_tell_13 rfl (lv_at hl 2 rfl) ?_
        refine lv_sipush (v := 200) hC.x hC.b dX7_tell_14 (by decide) ?_
        refine bi_ge (tgt := 45) (a := hr.toInt) (b := 200) hC.x hC.b rfl rfl dX7_tell_17 (by decide) (fun c_4 => ?_) (fun c_4 => ?_)
        · skip
          exact retv hC hK hR hS (by exact CG.rf) dX7_tell_45
        · skip
          refine lv_iload_n hC.x hC.b dX7_tell_20 rfl (lv_at hl 3 rfl) ?_
          refine bz_lt (tgt := 45) (a := pl.toInt) (b := 0) hC.x hC.b rfl rfl dX7_tell_21 (by decide) (fun c_5 => ?_) (fun c_5 => ?_)
          · skip
            exact retv hC hK hR hS (by exact CG.rf) dX7_tell_45
          · skip
            refine lv_iload_n hC.x hC.b dX7_tell_24 rfl (lv_at hl 3 rfl) ?_
            refine lv_bipush (v := 24) hC.x hC.b dX7_tell_25 (by decide) ?_
            refine bi_ge (tgt := 45) (a := pl.toInt) (b := 24) hC.x hC.b rfl rfl dX7_tell_27 (by decide) (fun c_6 => ?_) (fun c_6 => ?_)
            · skip
              exact retv hC hK hR hS (by exact CG.rf) dX7_tell_45
            · skip
              refine lv_aload_n hC.x hC.b dX7_tell_30 rfl (lv_at hl 0 rfl) ?_
              refine rget hC hK hR (ct_told G _ _) rfl uin_X7 0 (by decide) TF_X7_11 rfl dX7_tell_31 ?_
              refine lv_iload_n hC.x hC.b dX7_tell_34 rfl (lv_at hl 1 rfl) ?_
              have hq_7 : wa.toInt.toNat < 5 := by omega
              refine aald (t0 := 4) hC hK hR (by decide) rfl (ct_clockRows G _ _) rfl (by omega) (by omega) rfl dX7_tell_35 ?_
              refine lv_iload_n hC.x hC.b dX7_tell_36 rfl (lv_at hl 2 rfl) ?_
              refine lv_bipush (v := 24) hC.x hC.b dX7_tell_37 (by decide) ?_
              refine lv_imul hC.x hC.b dX7_tell_39 ?_
              have pr_8 : (hr * (24 : Int32)).toInt = (hr.toInt * 24) := mulI rfl rfl (by omega) (by omega)
              refine lv_iload_n hC.x hC.b dX7_tell_40 rfl (lv_at hl 3 rfl) ?_
              refine lv_iadd hC.x hC.b dX7_tell_41 ?_
              have pr_9 : ((hr * (24 : Int32)) + pl).toInt = ((hr.toInt * 24) + pl.toInt) := addI pr_8 rfl (by omega) (by omega)
              refine lv_iload hC.x hC.b dX7_tell_42 (lv_at hl 4 rfl) ?_
              refine ast hC hK hG hR hS (fun _ => ct_cr hq_7 G _ _) pr_9 (by omega) (by omega) rfl dX7_tell_44 (fun s_10 es_11 H locs hR hS => ?_)
              exact retv hC hK hR hS (by exact (by rw [es_11]; exact CG.up (CG.rf) (by omega))) dX7_tell_45

abbrev po4_X7_tellPaper (σ : SI) (τ : SL) (wa : Int32) (hr : Int32) (xa : Int32) : SI × SL → Prop := fun u => ((CG σ u.1))
set_option maxRecDepth 100000 in
set_option maxHeartbeats 4000000 in
theorem c4_X7_tellPaper (l : Launch) {G : Gx} {A : Nat → Prop} (hG : GOk G A) (σ : SI) (τ : SL) (wa : Int32) (hr : Int32) (xa : Int32) : MV l G A 0 yX7_tellPaper cX7_tellPaper 4 none [.ref (G.2.1 5), .int wa, .int hr, .int xa] (σ, τ) (po4_X7_tellPaper σ τ wa hr xa) := by
  refine met_of (own := RX7) (by decide +kernel) rfl [(0, .ref (G.2.1 5)), (1, .int wa), (2, .int hr), (3, .int xa)] rfl (Nat.le_of_ble_eq_true rfl) ?_
  intro p e s m args below meth c ls hC hK hR hl
  have hS : va_S A s.heap s.heap [] := va_S.rf
  refine lv_iload_n hC.x hC.b dX7_tellPaper_0 rfl (lv_at hl 1 rfl) ?_
  refine bz_lt (tgt := 30) (a := wa.toInt) (b := 0) hC.x hC.b rfl rfl dX7_tellPaper_1 (by decide) (fun c_1 => ?_) (fun c_1 => ?_)
  · skip
    exact retv hC hK hR hS (by exact CG.rf) dX7_tellPaper_30
  · skip
    refine lv_iload_n hC.x hC.b dX7_tellPaper_4 rfl (lv_at hl 1 rfl) ?_
    refine lv_bipush (v := 6) hC.x hC.b dX7_tellPaper_5 (by decide) ?_
    refine bi_ge (tgt := 30) (a := wa.toInt) (b := 6) hC.x hC.b rfl rfl dX7_tellPaper_7 (by decide) (fun c_2 => ?_) (fun c_2 => ?_)
    · skip
      exact retv hC hK hR hS (by exact CG.rf) dX7_tellPaper_30
    · skip
      refine lv_iload_n hC.x hC.b dX7_tellPaper_10 rfl (lv_at hl 2 rfl) ?_
      refine bz_lt (tgt := 30) (a := hr.toInt) (b := 0) hC.x hC.b rfl rfl dX7_tellPaper_11 (by decide) (fun c_3 => ?_) (fun c_3 => ?_)
      · skip
        exact retv hC hK hR hS (by exact CG.rf) dX7_tellPaper_30
      · skip
        refine lv_iload_n hC.x hC.b dX7_tellPaper_14 rfl (lv_at hl 2 rfl) ?_
        refine lv_sipush (v := 200) hC.x hC.b dX7_tellPaper_15 (by decide) ?_
        refine bi_ge (tgt := 30) (a := hr.toInt) (b := 200) hC.x hC.b rfl rfl dX7_tellPaper_18 (by decide) (fun c_4 => ?_) (fun c_4 => ?_)
        · skip
          exact retv hC hK hR hS (by exact CG.rf) dX7_tellPaper_30
        · skip
          refine lv_aload_n hC.x hC.b dX7_tellPaper_21 rfl (lv_at hl 0 rfl) ?_
          refine rget hC hK hR (ct_told G _ _) rfl uin_X7 1 (by decide) TF_X7_16 rfl dX7_tellPaper_22 ?_
          refine lv_iload_n hC.x hC.b dX7_tellPaper_25 rfl (lv_at hl 1 rfl) ?_
          have hq_5 : wa.toInt.toNat < 6 := by omega
          refine aald (t0 := 4) hC hK hR (by decide) rfl (ct_paperRows G _ _) rfl (by omega) (by omega) rfl dX7_tellPaper_26 ?_
          refine lv_iload_n hC.x hC.b dX7_tellPaper_27 rfl (lv_at hl 2 rfl) ?_
          refine lv_iload_n hC.x hC.b dX7_tellPaper_28 rfl (lv_at hl 3 rfl) ?_
          refine ast hC hK hG hR hS (fun _ => ct_pr hq_5 G _ _) rfl (by omega) (by omega) rfl dX7_tellPaper_29 (fun s_6 es_7 H locs hR hS => ?_)
          exact retv hC hK hR hS (by exact (by rw [es_7]; exact CG.up (CG.rf) (by omega))) dX7_tellPaper_30

abbrev po4_X1_weigh (σ : SI) (τ : SL) (hr : Int32) (pa : Int32) : SI × SL → Prop := fun u => ((CG σ u.1))
set_option maxRecDepth 100000 in
set_option maxHeartbeats 4000000 in
theorem c4_X1_weigh (l : Launch) {G : Gx} {A : Nat → Prop} (hG : GOk G A) (σ : SI) (τ : SL) (hr : Int32) (pa : Int32) : MV l G A 1 yX1_weigh cX1_weigh 8 none [.ref (G.2.1 21), .int hr, .int pa] (σ, τ) (po4_X1_weigh σ τ hr pa) := by
  refine met_of (own := RX1) (by decide +kernel) rfl [(0, .ref (G.2.1 21)), (1, .int hr), (2, .int pa)] rfl (Nat.le_of_ble_eq_true rfl) ?_
  intro p e s m args below meth c ls hC hK hR hl
  have hS : va_S A s.heap s.heap [] := va_S.rf
  refine lv_lconst (v := 0) hC.x hC.b dX1_weigh_0 (by decide) ?_
  refine lv_lstore_n (lv' := [(3, .long (0 : Int64)), (0, .ref (G.2.1 21)), (1, .int hr), (2, .int pa)]) hC.x hC.b dX1_weigh_1 rfl hl (by decide) rfl (fun ls hl => ?_)
  refine lv_iconst (v := 0) hC.x hC.b dX1_weigh_2 (by decide) ?_
  refine lv_istore (lv' := [(5, .int (0 : Int32)), (3, .long (0 : Int64)), (0, .ref (G.2.1 21)), (1, .int hr), (2, .int pa)]) hC.x hC.b dX1_weigh_3 hl (by decide) rfl (fun ls hl => ?_)
  have L_5 : ∀ (F : Nat) (n : Nat) (x3 : Int64), (24 - n) < F → (n ≤ 24) → ∀ (H : Heap) (locs : List Loc) (ls : Array Slot), RepH G σ τ H → va_S A s.heap H locs → lv_has ls 8 [(0, .ref (G.2.1 21)), (1, .int hr), (2, .int pa), (3, .long x3), (5, .int (nI n))] → W p l e (rmD 1) s m args below meth c H locs 0 0 (MQ below (va_Qv (po4_X1_weigh σ τ hr pa) (BU G) A) args s 0 0 A) (F0 m 5 ls []) := by
    intro F
    induction F with
    | zero => intro n x3 hm; exact absurd hm (Nat.not_lt_zero _)
    | succ F ih_5 =>
      intro n x3 hm_5 hi0_5 H locs ls hR hS hl
      refine lv_iload hC.x hC.b dX1_weigh_5 (lv_at hl 4 rfl) ?_
      refine lv_bipush (v := 24) hC.x hC.b dX1_weigh_7 (by decide) ?_
      refine bi_ge (tgt := 29) (a := (n : Int)) (b := 24) hC.x hC.b (nI_T n (by omega)) rfl dX1_weigh_9 (by decide) (fun c_1 => ?_) (fun c_1 => ?_)
      · skip
        refine lv_lconst (v := 1) hC.x hC.b dX1_weigh_29 (by decide) ?_
        refine lv_iload_n hC.x hC.b dX1_weigh_30 rfl (lv_at hl 2 rfl) ?_
        refine lv_i2l hC.x hC.b dX1_weigh_31 rfl ?_
        refine lv_lload_n hC.x hC.b dX1_weigh_32 rfl (lv_at hl 3 rfl) ?_
        refine lv_lmul hC.x hC.b dX1_weigh_33 ?_
        refine lv_ldc2 hC.x hC.b hC.ow (hC.ts _ TK_X1_112) dX1_weigh_34 ?_
        refine lv_ldiv hC.x hC.b dX1_weigh_37 (by decide) ?_
        have av_2 : (1 : Int64).toInt = 1 := by decide
        refine golp (runS (As := [.long (1 : Int64), .long ((pa.toInt64 * x3) / (100 : Int64))]) (rest := []) hC hK hR hl.1 (c_J9_max_f86c9 l hG σ τ (1 : Int64) ((pa.toInt64 * x3) / (100 : Int64)) ) (call_b hC.ts TC_J9_max_f86c9 TN_J9 TM_X1_114 hd_J9_max_f86c9 ⟨Nat.le_of_ble_eq_true rfl, Nat.le_of_ble_eq_true rfl⟩) TT_J9_max_f86c9 rfl rfl (Nat.le_of_ble_eq_true rfl) dX1_weigh_38 ⟨Nat.le_of_ble_eq_true rfl, Nat.le_of_ble_eq_true rfl⟩) hS (fun v_3 H locs w_4 hR hS => ?_)
        have f_5 := w_4
        refine lv_topl (fun x_6 ex_7 => ?_)
        refine lv_lstore (lv' := [(5, .long x_6), (0, .ref (G.2.1 21)), (1, .int hr), (2, .int pa), (3, .long x3)]) hC.x hC.b dX1_weigh_41 hl (by decide) rfl (fun ls hl => ?_)
        refine lv_iconst (v := 0) hC.x hC.b dX1_weigh_43 (by decide) ?_
        refine lv_istore (lv' := [(7, .int (0 : Int32)), (5, .long x_6), (0, .ref (G.2.1 21)), (1, .int hr), (2, .int pa), (3, .long x3)]) hC.x hC.b dX1_weigh_44 hl (by decide) rfl (fun ls hl => ?_)
        have L_46 : ∀ (F : Nat) (n : Nat) (s1 : SI) (t1 : SL), (24 - n) < F → (n ≤ 24) → (CG σ s1) → ∀ (H : Heap) (locs : List Loc) (ls : Array Slot), RepH G s1 t1 H → va_S A s.heap H locs → lv_has ls 8 [(0, .ref (G.2.1 21)), (1, .int hr), (2, .int pa), (5, .long x_6), (7, .int (nI n))] → W p l e (rmD 1) s m args below meth c H locs 0 0 (MQ below (va_Qv (po4_X1_weigh σ τ hr pa) (BU G) A) args s 0 0 A) (F0 m 46 ls []) := by
          intro F
          induction F with
          | zero => intro n s1 t1 hm; exact absurd hm (Nat.not_lt_zero _)
          | succ F ih_46 =>
            intro n s1 t1 hm_46 hi0_46 hi1_46 H locs ls hR hS hl
            have hnI := nI_T n (by omega)
            refine lv_iload hC.x hC.b dX1_weigh_46 (lv_at hl 4 rfl) ?_
            refine lv_bipush (v := 24) hC.x hC.b dX1_weigh_48 (by decide) ?_
            refine bi_ge (tgt := 84) (a := (n : Int)) (b := 24) hC.x hC.b (nI_T n (by omega)) rfl dX1_weigh_50 (by decide) (fun c_8 => ?_) (fun c_8 => ?_)
            · skip
              exact retv hC hK hR hS (by exact hi1_46) dX1_weigh_84
            · skip
              refine lv_aload_n hC.x hC.b dX1_weigh_53 rfl (lv_at hl 0 rfl) ?_
              refine rget hC hK hR (ct_closing G _ _) rfl uin_X1 2 (by decide) TF_X1_27 rfl dX1_weigh_54 ?_
              refine lv_iconst (v := 3) hC.x hC.b dX1_weigh_57 (by decide) ?_
              refine lv_iload_n hC.x hC.b dX1_weigh_58 rfl (lv_at hl 1 rfl) ?_
              refine lv_iload hC.x hC.b dX1_weigh_59 (lv_at hl 4 rfl) ?_
              refine lv_aload_n hC.x hC.b dX1_weigh_61 rfl (lv_at hl 0 rfl) ?_
              refine rget hC hK hR (ct_closing G _ _) rfl uin_X1 5 (by decide) TF_X1_9 rfl dX1_weigh_62 ?_
              refine lv_iload hC.x hC.b dX1_weigh_65 (lv_at hl 4 rfl) ?_
              refine ald hC hK hR (ct_fullWeights G _ _) (nI_T n (by omega)) (by omega) (by omega) (Int.toNat_natCast _) dX1_weigh_67 ?_
              refine lv_i2l hC.x hC.b dX1_weigh_68 rfl ?_
              refine lv_lload hC.x hC.b dX1_weigh_69 (lv_at hl 3 rfl) ?_
              have av_9 : ((s1 22 n).toInt64).toInt = (s1 22 n).toInt := (i2lI rfl)
              refine golp (runS (As := [.long ((s1 22 n).toInt64), .long x_6]) (rest := [.int (nI n), .int hr, .int (3 : Int32), .ref (G.2.1 5)]) hC hK hR hl.1 (c_J9_min_f86c9 l hG s1 t1 ((s1 22 n).toInt64) x_6 ) (call_b hC.ts TC_J9_min_f86c9 TN_J9 TM_X1_120 hd_J9_min_f86c9 ⟨Nat.le_of_ble_eq_true rfl, Nat.le_of_ble_eq_true rfl⟩) TT_J9_min_f86c9 rfl rfl (Nat.le_of_ble_eq_true rfl) dX1_weigh_71 ⟨Nat.le_of_ble_eq_true rfl, Nat.le_of_ble_eq_true rfl⟩) hS (fun v_10 H locs w_11 hR hS => ?_)
              have f_12 := w_11
              refine lv_l2i hC.x hC.b dX1_weigh_74 rfl ?_
              have av_13 : (3 : Int32).toInt = 3 := by decide
              have av_14 : (nI n).toInt = (n : Int) := (nI_T n (by omega))
              refine gov (runV (As := [.int (3 : Int32), .int hr, .int (nI n), .int v_10.toInt32]) (rest := []) hC hK hR hl.1 (c4_X7_tell l hG s1 t1 (3 : Int32) hr (nI n) v_10.toInt32 ) (call_b hC.ts TC_X7_tell TN_X7 TM_X1_98 hd_X7_tell ⟨Nat.le_of_ble_eq_true rfl, Nat.le_of_ble_eq_true rfl⟩) TI_X7_tell TS_X7_tell (ct_told G _ _) rfl rfl rfl (Nat.le_of_ble_eq_true rfl) dX1_weigh_75 ⟨Nat.le_of_ble_eq_true rfl, Nat.le_of_ble_eq_true rfl⟩) hS (fun s_17 t_18 H locs w_16 hR hS => ?_)
              try dsimp only [po4_X7_tell] at w_16
              have f_19 := w_16
              refine lv_iinc (v := nI (n + 1)) (lv' := [(7, .int (nI (n + 1))), (0, .ref (G.2.1 21)), (1, .int hr), (2, .int pa), (5, .long x_6)]) hC.x hC.b dX1_weigh_78 hl (k := 4) rfl (nI_succ _).symm (by decide) rfl (fun ls hl => ?_)
              refine lv_goto (tgt := 46) hC.x hC.b dX1_weigh_81 (by decide) ?_
              exact ih_46 (n + 1) s_17 t_18 (by omega) (by first | omega | assumption) (CG.tr hi1_46 f_19) _ _ _ hR hS (lv_sub hl [1, 2, 3, 4, 0] rfl)
        exact L_46 _ 0 σ τ (Nat.lt_succ_self _) (by first | omega | assumption) CG.rf _ _ _ hR hS (lv_sub hl [2, 3, 4, 1, 0] rfl)
      · skip
        refine lv_lload_n hC.x hC.b dX1_weigh_12 rfl (lv_at hl 3 rfl) ?_
        refine lv_aload_n hC.x hC.b dX1_weigh_13 rfl (lv_at hl 0 rfl) ?_
        refine rget hC hK hR (ct_closing G _ _) rfl uin_X1 5 (by decide) TF_X1_9 rfl dX1_weigh_14 ?_
        refine lv_iload hC.x hC.b dX1_weigh_17 (lv_at hl 4 rfl) ?_
        refine ald hC hK hR (ct_fullWeights G _ _) (nI_T n (by omega)) (by omega) (by omega) (Int.toNat_natCast _) dX1_weigh_19 ?_
        refine lv_i2l hC.x hC.b dX1_weigh_20 rfl ?_
        refine lv_ladd hC.x hC.b dX1_weigh_21 ?_
        refine lv_topl (fun x_20 ex_21 => ?_)
        refine lv_lstore_n (lv' := [(3, .long x_20), (0, .ref (G.2.1 21)), (1, .int hr), (2, .int pa), (5, .int (nI n))]) hC.x hC.b dX1_weigh_22 rfl hl (by decide) rfl (fun ls hl => ?_)
        refine lv_iinc (v := nI (n + 1)) (lv' := [(5, .int (nI (n + 1))), (3, .long x_20), (0, .ref (G.2.1 21)), (1, .int hr), (2, .int pa)]) hC.x hC.b dX1_weigh_23 hl (k := 4) rfl (nI_succ _).symm (by decide) rfl (fun ls hl => ?_)
        refine lv_goto (tgt := 5) hC.x hC.b dX1_weigh_26 (by decide) ?_
        exact ih_5 (n + 1) x_20 (by omega) (by first | omega | assumption) _ _ _ hR hS (lv_sub hl [2, 3, 4, 1, 0] rfl)
  exact L_5 _ 0 (0 : Int64) (Nat.lt_succ_self _) (by first | omega | assumption) _ _ _ hR hS (lv_sub hl [2, 3, 4, 1, 0] rfl)

abbrev po4_X1_makePaper (σ : SI) (τ : SL) (hr : Int32) : Int64 → SI × SL → Prop := fun v u => ((CG σ u.1))
set_option maxRecDepth 100000 in
set_option maxHeartbeats 4000000 in
theorem c4_X1_makePaper (l : Launch) {G : Gx} {A : Nat → Prop} (hG : GOk G A) (σ : SI) (τ : SL) (hr : Int32) : ML l G A 1 yX1_makePaper cX1_makePaper 9 (some .long) [.ref (G.2.1 21), .int hr] (σ, τ) (po4_X1_makePaper σ τ hr) := by
  refine met_of (own := RX1) (by decide +kernel) rfl [(0, .ref (G.2.1 21)), (1, .int hr)] rfl (Nat.le_of_ble_eq_true rfl) ?_
  intro p e s m args below meth c ls hC hK hR hl
  have hS : va_S A s.heap s.heap [] := va_S.rf
  refine lv_lconst (v := 0) hC.x hC.b dX1_makePaper_0 (by decide) ?_
  refine lv_lstore_n (lv' := [(2, .long (0 : Int64)), (0, .ref (G.2.1 21)), (1, .int hr)]) hC.x hC.b dX1_makePaper_1 rfl hl (by decide) rfl (fun ls hl => ?_)
  refine lv_lconst (v := 0) hC.x hC.b dX1_makePaper_2 (by decide) ?_
  refine lv_lstore (lv' := [(4, .long (0 : Int64)), (2, .long (0 : Int64)), (0, .ref (G.2.1 21)), (1, .int hr)]) hC.x hC.b dX1_makePaper_3 hl (by decide) rfl (fun ls hl => ?_)
  refine lv_iconst (v := 0) hC.x hC.b dX1_makePaper_5 (by decide) ?_
  refine lv_istore (lv' := [(6, .int (0 : Int32)), (4, .long (0 : Int64)), (2, .long (0 : Int64)), (0, .ref (G.2.1 21)), (1, .int hr)]) hC.x hC.b dX1_makePaper_6 hl (by decide) rfl (fun ls hl => ?_)
  have L_8 : ∀ (F : Nat) (n : Nat) (x2 : Int64) (x4 : Int64), (24 - n) < F → (n ≤ 24) → ∀ (H : Heap) (locs : List Loc) (ls : Array Slot), RepH G σ τ H → va_S A s.heap H locs → lv_has ls 9 [(0, .ref (G.2.1 21)), (1, .int hr), (2, .long x2), (4, .long x4), (6, .int (nI n))] → W p l e (rmD 1) s m args below meth c H locs 0 0 (MQ below (va_Ql (po4_X1_makePaper σ τ hr) (BU G) A) args s 0 0 A) (F0 m 8 ls []) := by
    intro F
    induction F with
    | zero => intro n x2 x4 hm; exact absurd hm (Nat.not_lt_zero _)
    | succ F ih_8 =>
      intro n x2 x4 hm_8 hi0_8 H locs ls hR hS hl
      refine lv_iload hC.x hC.b dX1_makePaper_8 (lv_at hl 4 rfl) ?_
      refine lv_bipush (v := 24) hC.x hC.b dX1_makePaper_10 (by decide) ?_
      refine bi_ge (tgt := 85) (a := (n : Int)) (b := 24) hC.x hC.b (nI_T n (by omega)) rfl dX1_makePaper_12 (by decide) (fun c_1 => ?_) (fun c_1 => ?_)
      · skip
        refine lv_aload_n hC.x hC.b dX1_makePaper_85 rfl (lv_at hl 0 rfl) ?_
        refine rget hC hK hR (ct_closing G _ _) rfl uin_X1 2 (by decide) TF_X1_27 rfl dX1_makePaper_86 ?_
        refine lv_iconst (v := 2) hC.x hC.b dX1_makePaper_89 (by decide) ?_
        refine lv_iload_n hC.x hC.b dX1_makePaper_90 rfl (lv_at hl 1 rfl) ?_
        refine lv_lload_n hC.x hC.b dX1_makePaper_91 rfl (lv_at hl 2 rfl) ?_
        refine lv_l2i hC.x hC.b dX1_makePaper_92 rfl ?_
        have av_2 : (2 : Int32).toInt = 2 := by decide
        refine gov (runV (As := [.int (2 : Int32), .int hr, .int x2.toInt32]) (rest := []) hC hK hR hl.1 (c4_X7_tellPaper l hG σ τ (2 : Int32) hr x2.toInt32 ) (call_b hC.ts TC_X7_tellPaper TN_X7 TM_X1_67 hd_X7_tellPaper ⟨Nat.le_of_ble_eq_true rfl, Nat.le_of_ble_eq_true rfl⟩) TI_X7_tellPaper TS_X7_tellPaper (ct_told G _ _) rfl rfl rfl (Nat.le_of_ble_eq_true rfl) dX1_makePaper_93 ⟨Nat.le_of_ble_eq_true rfl, Nat.le_of_ble_eq_true rfl⟩) hS (fun s_5 t_6 H locs w_4 hR hS => ?_)
        try dsimp only [po4_X7_tellPaper] at w_4
        have f_7 := w_4
        refine lv_aload_n hC.x hC.b dX1_makePaper_96 rfl (lv_at hl 0 rfl) ?_
        refine rget hC hK hR (ct_closing G _ _) rfl uin_X1 2 (by decide) TF_X1_27 rfl dX1_makePaper_97 ?_
        refine lv_iconst (v := 3) hC.x hC.b dX1_makePaper_100 (by decide) ?_
        refine lv_iload_n hC.x hC.b dX1_makePaper_101 rfl (lv_at hl 1 rfl) ?_
        refine lv_lload_n hC.x hC.b dX1_makePaper_102 rfl (lv_at hl 2 rfl) ?_
        refine lv_lconst (v := 0) hC.x hC.b dX1_makePaper_103 (by decide) ?_
        refine bl_le (tgt := 118) (a := x2.toInt) (b := 0) hC.x hC.b rfl rfl dX1_makePaper_104 dX1_makePaper_105 (by decide) (fun c_8 => ?_) (fun c_8 => ?_)
        · skip
          refine lv_iconst (v := 0) hC.x hC.b dX1_makePaper_118 (by decide) ?_
          have av_9 : (3 : Int32).toInt = 3 := by decide
          have av_10 : (0 : Int32).toInt = 0 := by decide
          refine gov (runV (As := [.int (3 : Int32), .int hr, .int (0 : Int32)]) (rest := []) hC hK hR hl.1 (c4_X7_tellPaper l hG s_5 t_6 (3 : Int32) hr (0 : Int32) ) (call_b hC.ts TC_X7_tellPaper TN_X7 TM_X1_67 hd_X7_tellPaper ⟨Nat.le_of_ble_eq_true rfl, Nat.le_of_ble_eq_true rfl⟩) TI_X7_tellPaper TS_X7_tellPaper (ct_told G _ _) rfl rfl rfl (Nat.le_of_ble_eq_true rfl) dX1_makePaper_119 ⟨Nat.le_of_ble_eq_true rfl, Nat.le_of_ble_eq_true rfl⟩) hS (fun s_13 t_14 H locs w_12 hR hS => ?_)
          try dsimp only [po4_X7_tellPaper] at w_12
          have f_15 := w_12
          refine lv_lload_n hC.x hC.b dX1_makePaper_122 rfl (lv_at hl 2 rfl) ?_
          refine lv_lconst (v := 0) hC.x hC.b dX1_makePaper_123 (by decide) ?_
          refine bl_le (tgt := 137) (a := x2.toInt) (b := 0) hC.x hC.b rfl rfl dX1_makePaper_124 dX1_makePaper_125 (by decide) (fun c_16 => ?_) (fun c_16 => ?_)
          · skip
            refine lv_lconst (v := 0) hC.x hC.b dX1_makePaper_137 (by decide) ?_
            exact retl hC hK hR hS (by exact (CG.tr (CG.tr CG.rf f_7) f_15)) dX1_makePaper_138
          · skip
            refine lv_lload hC.x hC.b dX1_makePaper_128 (lv_at hl 3 rfl) ?_
            refine lv_lload_n hC.x hC.b dX1_makePaper_130 rfl (lv_at hl 2 rfl) ?_
            refine golp (runS (As := [.long x4, .long x2]) (rest := []) hC hK hR hl.1 (c_J9_floorDiv_f86c9 l hG s_13 t_14 x4 x2 (by omega)) (call_b hC.ts TC_J9_floorDiv_f86c9 TN_J9 TM_X1_131 hd_J9_floorDiv_f86c9 ⟨Nat.le_of_ble_eq_true rfl, Nat.le_of_ble_eq_true rfl⟩) TT_J9_floorDiv_f86c9 rfl rfl (Nat.le_of_ble_eq_true rfl) dX1_makePaper_131 ⟨Nat.le_of_ble_eq_true rfl, Nat.le_of_ble_eq_true rfl⟩) hS (fun v_17 H locs w_18 hR hS => ?_)
            refine lv_goto (tgt := 138) hC.x hC.b dX1_makePaper_134 (by decide) ?_
            exact retl hC hK hR hS (by exact (CG.tr (CG.tr CG.rf f_7) f_15)) dX1_makePaper_138
        · skip
          refine lv_lload hC.x hC.b dX1_makePaper_108 (lv_at hl 3 rfl) ?_
          refine lv_lload_n hC.x hC.b dX1_makePaper_110 rfl (lv_at hl 2 rfl) ?_
          refine golp (runS (As := [.long x4, .long x2]) (rest := [.int hr, .int (3 : Int32), .ref (G.2.1 5)]) hC hK hR hl.1 (c_J9_floorMod_f86c9 l hG s_5 t_6 x4 x2 (by omega)) (call_b hC.ts TC_J9_floorMod_f86c9 TN_J9 TM_X1_128 hd_J9_floorMod_f86c9 ⟨Nat.le_of_ble_eq_true rfl, Nat.le_of_ble_eq_true rfl⟩) TT_J9_floorMod_f86c9 rfl rfl (Nat.le_of_ble_eq_true rfl) dX1_makePaper_111 ⟨Nat.le_of_ble_eq_true rfl, Nat.le_of_ble_eq_true rfl⟩) hS (fun v_19 H locs w_20 hR hS => ?_)
          refine lv_l2i hC.x hC.b dX1_makePaper_114 rfl ?_
          refine lv_goto (tgt := 119) hC.x hC.b dX1_makePaper_115 (by decide) ?_
          have av_21 : (3 : Int32).toInt = 3 := by decide
          refine gov (runV (As := [.int (3 : Int32), .int hr, .int v_19.toInt32]) (rest := []) hC hK hR hl.1 (c4_X7_tellPaper l hG s_5 t_6 (3 : Int32) hr v_19.toInt32 ) (call_b hC.ts TC_X7_tellPaper TN_X7 TM_X1_67 hd_X7_tellPaper ⟨Nat.le_of_ble_eq_true rfl, Nat.le_of_ble_eq_true rfl⟩) TI_X7_tellPaper TS_X7_tellPaper (ct_told G _ _) rfl rfl rfl (Nat.le_of_ble_eq_true rfl) dX1_makePaper_119 ⟨Nat.le_of_ble_eq_true rfl, Nat.le_of_ble_eq_true rfl⟩) hS (fun s_24 t_25 H locs w_23 hR hS => ?_)
          try dsimp only [po4_X7_tellPaper] at w_23
          have f_26 := w_23
          refine lv_lload_n hC.x hC.b dX1_makePaper_122 rfl (lv_at hl 2 rfl) ?_
          refine lv_lconst (v := 0) hC.x hC.b dX1_makePaper_123 (by decide) ?_
          refine bl_le (tgt := 137) (a := x2.toInt) (b := 0) hC.x hC.b rfl rfl dX1_makePaper_124 dX1_makePaper_125 (by decide) (fun c_27 => ?_) (fun c_27 => ?_)
          · skip
            refine lv_lconst (v := 0) hC.x hC.b dX1_makePaper_137 (by decide) ?_
            exact retl hC hK hR hS (by exact (CG.tr (CG.tr CG.rf f_7) f_26)) dX1_makePaper_138
          · skip
            refine lv_lload hC.x hC.b dX1_makePaper_128 (lv_at hl 3 rfl) ?_
            refine lv_lload_n hC.x hC.b dX1_makePaper_130 rfl (lv_at hl 2 rfl) ?_
            refine golp (runS (As := [.long x4, .long x2]) (rest := []) hC hK hR hl.1 (c_J9_floorDiv_f86c9 l hG s_24 t_25 x4 x2 (by omega)) (call_b hC.ts TC_J9_floorDiv_f86c9 TN_J9 TM_X1_131 hd_J9_floorDiv_f86c9 ⟨Nat.le_of_ble_eq_true rfl, Nat.le_of_ble_eq_true rfl⟩) TT_J9_floorDiv_f86c9 rfl rfl (Nat.le_of_ble_eq_true rfl) dX1_makePaper_131 ⟨Nat.le_of_ble_eq_true rfl, Nat.le_of_ble_eq_true rfl⟩) hS (fun v_28 H locs w_29 hR hS => ?_)
            refine lv_goto (tgt := 138) hC.x hC.b dX1_makePaper_134 (by decide) ?_
            exact retl hC hK hR hS (by exact (CG.tr (CG.tr CG.rf f_7) f_26)) dX1_makePaper_138
      · skip
        refine lv_aload_n hC.x hC.b dX1_makePaper_15 rfl (lv_at hl 0 rfl) ?_
        refine rget hC hK hR (ct_closing G _ _) rfl uin_X1 2 (by decide) TF_X1_27 rfl dX1_makePaper_16 ?_
        refine lv_iconst (v := 3) hC.x hC.b dX1_makePaper_19 (by decide) ?_
        refine lv_iload_n hC.x hC.b dX1_makePaper_20 rfl (lv_at hl 1 rfl) ?_
        refine lv_iload hC.x hC.b dX1_makePaper_21 (lv_at hl 4 rfl) ?_
        have av_30 : (3 : Int32).toInt = 3 := by decide
        have av_31 : (nI n).toInt = (n : Int) := (nI_T n (by omega))
        refine goip (runV (As := [.int (3 : Int32), .int hr, .int (nI n)]) (rest := []) hC hK hR hl.1 (c_X7_ofClock l hG σ τ (3 : Int32) hr (nI n) ) (call_b hC.ts TC_X7_ofClock TN_X7 TM_X1_123 hd_X7_ofClock ⟨Nat.le_of_ble_eq_true rfl, Nat.le_of_ble_eq_true rfl⟩) TI_X7_ofClock TS_X7_ofClock (ct_told G _ _) rfl rfl rfl (Nat.le_of_ble_eq_true rfl) dX1_makePaper_23 ⟨Nat.le_of_ble_eq_true rfl, Nat.le_of_ble_eq_true rfl⟩) hS (fun v_32 H locs w_33 hR hS => ?_)
        refine lv_istore (lv' := [(7, .int v_32), (0, .ref (G.2.1 21)), (1, .int hr), (2, .long x2), (4, .long x4), (6, .int (nI n))]) hC.x hC.b dX1_makePaper_26 hl (by decide) rfl (fun ls hl => ?_)
        refine lv_aload_n hC.x hC.b dX1_makePaper_28 rfl (lv_at hl 1 rfl) ?_
        refine rget hC hK hR (ct_closing G _ _) rfl uin_X1 2 (by decide) TF_X1_27 rfl dX1_makePaper_29 ?_
        refine lv_iconst (v := 1) hC.x hC.b dX1_makePaper_32 (by decide) ?_
        refine lv_iload_n hC.x hC.b dX1_makePaper_33 rfl (lv_at hl 2 rfl) ?_
        refine lv_iload hC.x hC.b dX1_makePaper_34 (lv_at hl 5 rfl) ?_
        have av_34 : (1 : Int32).toInt = 1 := by decide
        have av_35 : (nI n).toInt = (n : Int) := (nI_T n (by omega))
        refine goip (runV (As := [.int (1 : Int32), .int hr, .int (nI n)]) (rest := []) hC hK hR hl.1 (c_X7_ofClock l hG σ τ (1 : Int32) hr (nI n) ) (call_b hC.ts TC_X7_ofClock TN_X7 TM_X1_123 hd_X7_ofClock ⟨Nat.le_of_ble_eq_true rfl, Nat.le_of_ble_eq_true rfl⟩) TI_X7_ofClock TS_X7_ofClock (ct_told G _ _) rfl rfl rfl (Nat.le_of_ble_eq_true rfl) dX1_makePaper_36 ⟨Nat.le_of_ble_eq_true rfl, Nat.le_of_ble_eq_true rfl⟩) hS (fun v_36 H locs w_37 hR hS => ?_)
        refine lv_istore (lv' := [(8, .int v_36), (7, .int v_32), (0, .ref (G.2.1 21)), (1, .int hr), (2, .long x2), (4, .long x4), (6, .int (nI n))]) hC.x hC.b dX1_makePaper_39 hl (by decide) rfl (fun ls hl => ?_)
        refine lv_iload hC.x hC.b dX1_makePaper_41 (lv_at hl 0 rfl) ?_
        refine lv_ldc hC.x hC.b hC.ow (hC.ts _ TK_X1_127) dX1_makePaper_43 ?_
        refine bi_eq (tgt := 79) (a := v_36.toInt) (b := 2000000000) hC.x hC.b rfl rfl dX1_makePaper_45 (by decide) (fun c_38 => ?_) (fun c_38 => ?_)
        · skip
          refine lv_iinc (v := nI (n + 1)) (lv' := [(6, .int (nI (n + 1))), (8, .int v_36), (7, .int v_32), (0, .ref (G.2.1 21)), (1, .int hr), (2, .long x2), (4, .long x4)]) hC.x hC.b dX1_makePaper_79 hl (k := 6) rfl (nI_succ _).symm (by decide) rfl (fun ls hl => ?_)
          refine lv_goto (tgt := 8) hC.x hC.b dX1_makePaper_82 (by decide) ?_
          exact ih_8 (n + 1) x2 x4 (by omega) (by first | omega | assumption) _ _ _ hR hS (lv_sub hl [3, 4, 5, 6, 0] rfl)
        · skip
          refine lv_lload_n hC.x hC.b dX1_makePaper_48 rfl (lv_at hl 4 rfl) ?_
          refine lv_iload hC.x hC.b dX1_makePaper_49 (lv_at hl 1 rfl) ?_
          refine lv_i2l hC.x hC.b dX1_makePaper_51 rfl ?_
          refine lv_ladd hC.x hC.b dX1_makePaper_52 ?_
          refine lv_lstore_n (lv' := [(2, .long (x2 + v_32.toInt64)), (8, .int v_36), (7, .int v_32), (0, .ref (G.2.1 21)), (1, .int hr), (4, .long x4), (6, .int (nI n))]) hC.x hC.b dX1_makePaper_53 rfl hl (by decide) rfl (fun ls hl => ?_)
          refine lv_lload hC.x hC.b dX1_makePaper_54 (lv_at hl 5 rfl) ?_
          refine lv_iload hC.x hC.b dX1_makePaper_56 (lv_at hl 2 rfl) ?_
          refine lv_i2l hC.x hC.b dX1_makePaper_58 rfl ?_
          refine lv_iload hC.x hC.b dX1_makePaper_59 (lv_at hl 1 rfl) ?_
          refine lv_i2l hC.x hC.b dX1_makePaper_61 rfl ?_
          refine lv_aload_n hC.x hC.b dX1_makePaper_62 rfl (lv_at hl 3 rfl) ?_
          refine rget hC hK hR (ct_closing G _ _) rfl uin_X1 2 (by decide) TF_X1_27 rfl dX1_makePaper_63 ?_
          refine lv_iconst (v := 4) hC.x hC.b dX1_makePaper_66 (by decide) ?_
          refine lv_iload_n hC.x hC.b dX1_makePaper_67 rfl (lv_at hl 4 rfl) ?_
          refine lv_iload hC.x hC.b dX1_makePaper_68 (lv_at hl 6 rfl) ?_
          have av_39 : (4 : Int32).toInt = 4 := by decide
          have av_40 : (nI n).toInt = (n : Int) := (nI_T n (by omega))
          refine goip (runV (As := [.int (4 : Int32), .int hr, .int (nI n)]) (rest := [.long v_36.toInt64, .long v_32.toInt64, .long x4]) hC hK hR hl.1 (c_X7_ofClock l hG σ τ (4 : Int32) hr (nI n) ) (call_b hC.ts TC_X7_ofClock TN_X7 TM_X1_123 hd_X7_ofClock ⟨Nat.le_of_ble_eq_true rfl, Nat.le_of_ble_eq_true rfl⟩) TI_X7_ofClock TS_X7_ofClock (ct_told G _ _) rfl rfl rfl (Nat.le_of_ble_eq_true rfl) dX1_makePaper_70 ⟨Nat.le_of_ble_eq_true rfl, Nat.le_of_ble_eq_true rfl⟩) hS (fun v_41 H locs w_42 hR hS => ?_)
          refine lv_i2l hC.x hC.b dX1_makePaper_73 rfl ?_
          refine lv_ladd hC.x hC.b dX1_makePaper_74 ?_
          refine lv_lmul hC.x hC.b dX1_makePaper_75 ?_
          refine lv_ladd hC.x hC.b dX1_makePaper_76 ?_
          refine lv_topl (fun x_43 ex_44 => ?_)
          refine lv_lstore (lv' := [(4, .long x_43), (2, .long (x2 + v_32.toInt64)), (8, .int v_36), (7, .int v_32), (0, .ref (G.2.1 21)), (1, .int hr), (6, .int (nI n))]) hC.x hC.b dX1_makePaper_77 hl (by decide) rfl (fun ls hl => ?_)
          refine lv_iinc (v := nI (n + 1)) (lv' := [(6, .int (nI (n + 1))), (4, .long x_43), (2, .long (x2 + v_32.toInt64)), (8, .int v_36), (7, .int v_32), (0, .ref (G.2.1 21)), (1, .int hr)]) hC.x hC.b dX1_makePaper_79 hl (k := 6) rfl (nI_succ _).symm (by decide) rfl (fun ls hl => ?_)
          refine lv_goto (tgt := 8) hC.x hC.b dX1_makePaper_82 (by decide) ?_
          exact ih_8 (n + 1) (x2 + v_32.toInt64) x_43 (by omega) (by first | omega | assumption) _ _ _ hR hS (lv_sub hl [5, 6, 2, 1, 0] rfl)
  exact L_8 _ 0 (0 : Int64) (0 : Int64) (Nat.lt_succ_self _) (by first | omega | assumption) _ _ _ hR hS (lv_sub hl [3, 4, 2, 1, 0] rfl)

abbrev po4_X1_tellXs (σ : SI) (τ : SL) (hr : Int32) (xr : Int64) : SI × SL → Prop := fun u => ((CG σ u.1))
set_option maxRecDepth 100000 in
set_option maxHeartbeats 4000000 in
theorem c4_X1_tellXs (l : Launch) {G : Gx} {A : Nat → Prop} (hG : GOk G A) (σ : SI) (τ : SL) (hr : Int32) (xr : Int64) : MV l G A 2 yX1_tellXs cX1_tellXs 9 none [.ref (G.2.1 21), .int hr, .long xr] (σ, τ) (po4_X1_tellXs σ τ hr xr) := by
  refine met_of (own := RX1) (by decide +kernel) rfl [(0, .ref (G.2.1 21)), (1, .int hr), (2, .long xr)] rfl (Nat.le_of_ble_eq_true rfl) ?_
  intro p e s m args below meth c ls hC hK hR hl
  have hS : va_S A s.heap s.heap [] := va_S.rf
  refine lv_iconst (v := 0) hC.x hC.b dX1_tellXs_0 (by decide) ?_
  refine lv_istore (lv' := [(4, .int (0 : Int32)), (0, .ref (G.2.1 21)), (1, .int hr), (2, .long xr)]) hC.x hC.b dX1_tellXs_1 hl (by decide) rfl (fun ls hl => ?_)
  have L_3 : ∀ (F : Nat) (n : Nat) (s1 : SI) (t1 : SL), (24 - n) < F → (n ≤ 24) → (CG σ s1) → ∀ (H : Heap) (locs : List Loc) (ls : Array Slot), RepH G s1 t1 H → va_S A s.heap H locs → lv_has ls 9 [(0, .ref (G.2.1 21)), (1, .int hr), (2, .long xr), (4, .int (nI n))] → W p l e (rmD 2) s m args below meth c H locs 0 0 (MQ below (va_Qv (po4_X1_tellXs σ τ hr xr) (BU G) A) args s 0 0 A) (F0 m 3 ls []) := by
    intro F
    induction F with
    | zero => intro n s1 t1 hm; exact absurd hm (Nat.not_lt_zero _)
    | succ F ih_3 =>
      intro n s1 t1 hm_3 hi0_3 hi1_3 H locs ls hR hS hl
      have hnI := nI_T n (by omega)
      refine lv_iload hC.x hC.b dX1_tellXs_3 (lv_at hl 3 rfl) ?_
      refine lv_bipush (v := 24) hC.x hC.b dX1_tellXs_5 (by decide) ?_
      refine bi_ge (tgt := 103) (a := (n : Int)) (b := 24) hC.x hC.b (nI_T n (by omega)) rfl dX1_tellXs_7 (by decide) (fun c_1 => ?_) (fun c_1 => ?_)
      · skip
        exact retv hC hK hR hS (by exact hi1_3) dX1_tellXs_103
      · skip
        refine lv_aload_n hC.x hC.b dX1_tellXs_10 rfl (lv_at hl 0 rfl) ?_
        refine rget hC hK hR (ct_closing G _ _) rfl uin_X1 2 (by decide) TF_X1_27 rfl dX1_tellXs_11 ?_
        refine lv_iconst (v := 4) hC.x hC.b dX1_tellXs_14 (by decide) ?_
        refine lv_iload_n hC.x hC.b dX1_tellXs_15 rfl (lv_at hl 1 rfl) ?_
        refine lv_iload hC.x hC.b dX1_tellXs_16 (lv_at hl 3 rfl) ?_
        have av_2 : (4 : Int32).toInt = 4 := by decide
        have av_3 : (nI n).toInt = (n : Int) := (nI_T n (by omega))
        refine goip (runV (As := [.int (4 : Int32), .int hr, .int (nI n)]) (rest := []) hC hK hR hl.1 (c_X7_ofClock l hG s1 t1 (4 : Int32) hr (nI n) ) (call_b hC.ts TC_X7_ofClock TN_X7 TM_X1_123 hd_X7_ofClock ⟨Nat.le_of_ble_eq_true rfl, Nat.le_of_ble_eq_true rfl⟩) TI_X7_ofClock TS_X7_ofClock (ct_told G _ _) rfl rfl rfl (Nat.le_of_ble_eq_true rfl) dX1_tellXs_18 ⟨Nat.le_of_ble_eq_true rfl, Nat.le_of_ble_eq_true rfl⟩) hS (fun v_4 H locs w_5 hR hS => ?_)
        refine lv_istore (lv' := [(5, .int v_4), (0, .ref (G.2.1 21)), (1, .int hr), (2, .long xr), (4, .int (nI n))]) hC.x hC.b dX1_tellXs_21 hl (by decide) rfl (fun ls hl => ?_)
        refine lv_iload hC.x hC.b dX1_tellXs_23 (lv_at hl 0 rfl) ?_
        refine lv_ldc hC.x hC.b hC.ow (hC.ts _ TK_X1_127) dX1_tellXs_25 ?_
        refine bi_ne (tgt := 33) (a := v_4.toInt) (b := 2000000000) hC.x hC.b rfl rfl dX1_tellXs_27 (by decide) (fun c_6 => ?_) (fun c_6 => ?_)
        · skip
          refine lv_lload_n hC.x hC.b dX1_tellXs_33 rfl (lv_at hl 3 rfl) ?_
          refine lv_iload hC.x hC.b dX1_tellXs_34 (lv_at hl 0 rfl) ?_
          refine lv_i2l hC.x hC.b dX1_tellXs_36 rfl ?_
          refine lv_lsub hC.x hC.b dX1_tellXs_37 ?_
          refine lv_lstore (lv' := [(6, .long (xr - v_4.toInt64)), (5, .int v_4), (0, .ref (G.2.1 21)), (1, .int hr), (2, .long xr), (4, .int (nI n))]) hC.x hC.b dX1_tellXs_38 hl (by decide) rfl (fun ls hl => ?_)
          refine lv_aload_n hC.x hC.b dX1_tellXs_40 rfl (lv_at hl 2 rfl) ?_
          refine rget hC hK hR (ct_closing G _ _) rfl uin_X1 2 (by decide) TF_X1_27 rfl dX1_tellXs_41 ?_
          refine lv_iconst (v := 1) hC.x hC.b dX1_tellXs_44 (by decide) ?_
          refine lv_iload_n hC.x hC.b dX1_tellXs_45 rfl (lv_at hl 3 rfl) ?_
          refine lv_iload hC.x hC.b dX1_tellXs_46 (lv_at hl 5 rfl) ?_
          have av_7 : (1 : Int32).toInt = 1 := by decide
          have av_8 : (nI n).toInt = (n : Int) := (nI_T n (by omega))
          refine goip (runV (As := [.int (1 : Int32), .int hr, .int (nI n)]) (rest := []) hC hK hR hl.1 (c_X7_ofClock l hG s1 t1 (1 : Int32) hr (nI n) ) (call_b hC.ts TC_X7_ofClock TN_X7 TM_X1_123 hd_X7_ofClock ⟨Nat.le_of_ble_eq_true rfl, Nat.le_of_ble_eq_true rfl⟩) TI_X7_ofClock TS_X7_ofClock (ct_told G _ _) rfl rfl rfl (Nat.le_of_ble_eq_true rfl) dX1_tellXs_48 ⟨Nat.le_of_ble_eq_true rfl, Nat.le_of_ble_eq_true rfl⟩) hS (fun v_9 H locs w_10 hR hS => ?_)
          refine lv_istore (lv' := [(8, .int v_9), (6, .long (xr - v_4.toInt64)), (5, .int v_4), (0, .ref (G.2.1 21)), (1, .int hr), (2, .long xr), (4, .int (nI n))]) hC.x hC.b dX1_tellXs_51 hl (by decide) rfl (fun ls hl => ?_)
          refine lv_aload_n hC.x hC.b dX1_tellXs_53 rfl (lv_at hl 3 rfl) ?_
          refine rget hC hK hR (ct_closing G _ _) rfl uin_X1 2 (by decide) TF_X1_27 rfl dX1_tellXs_54 ?_
          refine lv_iconst (v := 0) hC.x hC.b dX1_tellXs_57 (by decide) ?_
          refine lv_iload_n hC.x hC.b dX1_tellXs_58 rfl (lv_at hl 4 rfl) ?_
          refine lv_iload hC.x hC.b dX1_tellXs_59 (lv_at hl 6 rfl) ?_
          refine lv_lload hC.x hC.b dX1_tellXs_61 (lv_at hl 1 rfl) ?_
          refine lv_l2i hC.x hC.b dX1_tellXs_63 rfl ?_
          have av_11 : (0 : Int32).toInt = 0 := by decide
          have av_12 : (nI n).toInt = (n : Int) := (nI_T n (by omega))
          refine gov (runV (As := [.int (0 : Int32), .int hr, .int (nI n), .int ((xr - v_4.toInt64).toInt32)]) (rest := []) hC hK hR hl.1 (c4_X7_tell l hG s1 t1 (0 : Int32) hr (nI n) ((xr - v_4.toInt64).toInt32) ) (call_b hC.ts TC_X7_tell TN_X7 TM_X1_98 hd_X7_tell ⟨Nat.le_of_ble_eq_true rfl, Nat.le_of_ble_eq_true rfl⟩) TI_X7_tell TS_X7_tell (ct_told G _ _) rfl rfl rfl (Nat.le_of_ble_eq_true rfl) dX1_tellXs_64 ⟨Nat.le_of_ble_eq_true rfl, Nat.le_of_ble_eq_true rfl⟩) hS (fun s_15 t_16 H locs w_14 hR hS => ?_)
          try dsimp only [po4_X7_tell] at w_14
          have f_17 := w_14
          refine lv_iload hC.x hC.b dX1_tellXs_67 (lv_at hl 0 rfl) ?_
          refine lv_ldc hC.x hC.b hC.ow (hC.ts _ TK_X1_127) dX1_tellXs_69 ?_
          refine bi_eq (tgt := 97) (a := v_9.toInt) (b := 2000000000) hC.x hC.b rfl rfl dX1_tellXs_71 (by decide) (fun c_18 => ?_) (fun c_18 => ?_)
          · skip
            refine lv_iinc (v := nI (n + 1)) (lv' := [(4, .int (nI (n + 1))), (8, .int v_9), (6, .long (xr - v_4.toInt64)), (5, .int v_4), (0, .ref (G.2.1 21)), (1, .int hr), (2, .long xr)]) hC.x hC.b dX1_tellXs_97 hl (k := 6) rfl (nI_succ _).symm (by decide) rfl (fun ls hl => ?_)
            refine lv_goto (tgt := 3) hC.x hC.b dX1_tellXs_100 (by decide) ?_
            exact ih_3 (n + 1) s_15 t_16 (by omega) (by first | omega | assumption) (CG.tr hi1_3 f_17) _ _ _ hR hS (lv_sub hl [4, 5, 6, 0] rfl)
          · skip
            refine lv_aload_n hC.x hC.b dX1_tellXs_74 rfl (lv_at hl 3 rfl) ?_
            refine rget hC hK hR (ct_closing G _ _) rfl uin_X1 2 (by decide) TF_X1_27 rfl dX1_tellXs_75 ?_
            refine lv_iconst (v := 2) hC.x hC.b dX1_tellXs_78 (by decide) ?_
            refine lv_iload_n hC.x hC.b dX1_tellXs_79 rfl (lv_at hl 4 rfl) ?_
            refine lv_iload hC.x hC.b dX1_tellXs_80 (lv_at hl 6 rfl) ?_
            refine lv_lload hC.x hC.b dX1_tellXs_82 (lv_at hl 1 rfl) ?_
            refine lv_iload hC.x hC.b dX1_tellXs_84 (lv_at hl 0 rfl) ?_
            refine lv_i2l hC.x hC.b dX1_tellXs_86 rfl ?_
            refine lv_lsub hC.x hC.b dX1_tellXs_87 ?_
            refine lv_sipush (v := 30000) hC.x hC.b dX1_tellXs_88 (by decide) ?_
            have av_19 : (30000 : Int32).toInt = 30000 := by decide
            refine goip (runSN (As := [.long ((xr - v_4.toInt64) - v_9.toInt64), .int (30000 : Int32)]) (rest := [.int (nI n), .int hr, .int (2 : Int32), .ref (G.2.1 5)]) hC hK hR hl.1 (c_X9_cut l hG s_15 t_16 ((xr - v_4.toInt64) - v_9.toInt64) (30000 : Int32) (by first | decide | omega)) (call_n hC.ts TC_X9_cut TN_X9 hK.2.2.2.2.2.2.2 hd_X9_cut ⟨Nat.le_of_ble_eq_true rfl, Nat.le_of_ble_eq_true rfl⟩) TT_X9_cut rfl rfl (Nat.le_of_ble_eq_true rfl) dX1_tellXs_91 ⟨Nat.le_of_ble_eq_true rfl, Nat.le_of_ble_eq_true rfl⟩) hS (fun v_20 H locs w_21 hR hS => ?_)
            have f_22 := w_21
            have av_23 : (2 : Int32).toInt = 2 := by decide
            have av_24 : (nI n).toInt = (n : Int) := (nI_T n (by omega))
            refine gov (runV (As := [.int (2 : Int32), .int hr, .int (nI n), .int v_20]) (rest := []) hC hK hR hl.1 (c4_X7_tell l hG s_15 t_16 (2 : Int32) hr (nI n) v_20 ) (call_b hC.ts TC_X7_tell TN_X7 TM_X1_98 hd_X7_tell ⟨Nat.le_of_ble_eq_true rfl, Nat.le_of_ble_eq_true rfl⟩) TI_X7_tell TS_X7_tell (ct_told G _ _) rfl rfl rfl (Nat.le_of_ble_eq_true rfl) dX1_tellXs_94 ⟨Nat.le_of_ble_eq_true rfl, Nat.le_of_ble_eq_true rfl⟩) hS (fun s_27 t_28 H locs w_26 hR hS => ?_)
            try dsimp only [po4_X7_tell] at w_26
            have f_29 := w_26
            refine lv_iinc (v := nI (n + 1)) (lv' := [(4, .int (nI (n + 1))), (8, .int v_9), (6, .long (xr - v_4.toInt64)), (5, .int v_4), (0, .ref (G.2.1 21)), (1, .int hr), (2, .long xr)]) hC.x hC.b dX1_tellXs_97 hl (k := 6) rfl (nI_succ _).symm (by decide) rfl (fun ls hl => ?_)
            refine lv_goto (tgt := 3) hC.x hC.b dX1_tellXs_100 (by decide) ?_
            exact ih_3 (n + 1) s_27 t_28 (by omega) (by first | omega | assumption) (CG.tr (CG.tr hi1_3 f_17) f_29) _ _ _ hR hS (lv_sub hl [4, 5, 6, 0] rfl)
        · skip
          refine lv_goto (tgt := 97) hC.x hC.b dX1_tellXs_30 (by decide) ?_
          refine lv_iinc (v := nI (n + 1)) (lv' := [(4, .int (nI (n + 1))), (5, .int v_4), (0, .ref (G.2.1 21)), (1, .int hr), (2, .long xr)]) hC.x hC.b dX1_tellXs_97 hl (k := 4) rfl (nI_succ _).symm (by decide) rfl (fun ls hl => ?_)
          refine lv_goto (tgt := 3) hC.x hC.b dX1_tellXs_100 (by decide) ?_
          exact ih_3 (n + 1) s1 t1 (by omega) (by first | omega | assumption) hi1_3 _ _ _ hR hS (lv_sub hl [2, 3, 4, 0] rfl)
  exact L_3 _ 0 σ τ (Nat.lt_succ_self _) (by first | omega | assumption) CG.rf _ _ _ hR hS (lv_sub hl [1, 2, 3, 0] rfl)

abbrev po4_X1_judgeSuspect (σ : SI) (τ : SL) (cq : Nat) (hr : Int32) (ma : Int32) : SI × SL → Prop := fun u => ((CG σ u.1))
set_option maxRecDepth 100000 in
set_option maxHeartbeats 4000000 in
theorem c4_X1_judgeSuspect (l : Launch) {G : Gx} {A : Nat → Prop} (hG : GOk G A) (σ : SI) (τ : SL) (cq : Nat) (hcq : cq < 24) (hr : Int32) (ma : Int32) (hhr : 0 ≤ hr.toInt ∧ hr.toInt ≤ 200) : MV l G A 2 yX1_judgeSuspect cX1_judgeSuspect 6 none [.ref (G.2.1 21), .ref (G.2.1 (80 + cq)), .int hr, .int ma] (σ, τ) (po4_X1_judgeSuspect σ τ cq hr ma) := by
  refine met_of (own := RX1) (by decide +kernel) rfl [(0, .ref (G.2.1 21)), (1, .ref (G.2.1 (80 + cq))), (2, .int hr), (3, .int ma)] rfl (Nat.le_of_ble_eq_true rfl) ?_
  intro p e s m args below meth c ls hC hK hR hl
  have hS : va_S A s.heap s.heap [] := va_S.rf
  refine lv_aload_n hC.x hC.b dX1_judgeSuspect_0 rfl (lv_at hl 0 rfl) ?_
  refine rget hC hK hR (ct_closing G _ _) rfl uin_X1 3 (by decide) TF_X1_31 rfl dX1_judgeSuspect_1 ?_
  refine lv_aload_n hC.x hC.b dX1_judgeSuspect_4 rfl (lv_at hl 1 rfl) ?_
  refine lv_iload_n hC.x hC.b dX1_judgeSuspect_5 rfl (lv_at hl 2 rfl) ?_
  refine lv_iconst (v := 1) hC.x hC.b dX1_judgeSuspect_6 (by decide) ?_
  refine lv_isub hC.x hC.b dX1_judgeSuspect_7 ?_
  refine goip (runV (As := [.ref (G.2.1 (80 + cq)), .int (hr - (1 : Int32))]) (rest := []) hC hK hR hl.1 (c_X2_missedOf l hG σ τ cq hcq (hr - (1 : Int32)) ) (call_b hC.ts TC_X2_missedOf TN_X2 TM_X1_166 hd_X2_missedOf ⟨Nat.le_of_ble_eq_true rfl, Nat.le_of_ble_eq_true rfl⟩) TI_X2_missedOf TS_X2_missedOf (ct_fore G _ _) rfl rfl rfl (Nat.le_of_ble_eq_true rfl) dX1_judgeSuspect_8 ⟨Nat.le_of_ble_eq_true rfl, Nat.le_of_ble_eq_true rfl⟩) hS (fun v_1 H locs w_2 hR hS => ?_)
  refine lv_istore (lv' := [(4, .int v_1), (0, .ref (G.2.1 21)), (1, .ref (G.2.1 (80 + cq))), (2, .int hr), (3, .int ma)]) hC.x hC.b dX1_judgeSuspect_11 hl (by decide) rfl (fun ls hl => ?_)
  refine lv_iload hC.x hC.b dX1_judgeSuspect_13 (lv_at hl 0 rfl) ?_
  refine lv_iload_n hC.x hC.b dX1_judgeSuspect_15 rfl (lv_at hl 4 rfl) ?_
  refine goip (runS (As := [.int v_1, .int ma]) (rest := []) hC hK hR hl.1 (c_X2_haveOneSign l hG σ τ v_1 ma ) (call_b hC.ts TC_X2_haveOneSign TN_X2 TM_X1_169 hd_X2_haveOneSign ⟨Nat.le_of_ble_eq_true rfl, Nat.le_of_ble_eq_true rfl⟩) TT_X2_haveOneSign rfl rfl (Nat.le_of_ble_eq_true rfl) dX1_judgeSuspect_16 ⟨Nat.le_of_ble_eq_true rfl, Nat.le_of_ble_eq_true rfl⟩) hS (fun v_3 H locs w_4 hR hS => ?_)
  rcases w_4 with rfl | rfl
  · skip
    refine bz_eq (tgt := 42) (a := 1) (b := 0) hC.x hC.b rfl rfl dX1_judgeSuspect_19 (by decide) (fun c_5 => absurd c_5 (by decide)) (fun _ => ?_)
    refine lv_iload_n hC.x hC.b dX1_judgeSuspect_22 rfl (lv_at hl 4 rfl) ?_
    refine goip (runS (As := [.int ma]) (rest := []) hC hK hR hl.1 (c_J9_abs_0f7a4 l hG σ τ ma ) (call_b hC.ts TC_J9_abs_0f7a4 TN_J9 TM_X1_159 hd_J9_abs_0f7a4 ⟨Nat.le_of_ble_eq_true rfl, Nat.le_of_ble_eq_true rfl⟩) TT_J9_abs_0f7a4 rfl rfl (Nat.le_of_ble_eq_true rfl) dX1_judgeSuspect_23 ⟨Nat.le_of_ble_eq_true rfl, Nat.le_of_ble_eq_true rfl⟩) hS (fun v_6 H locs w_7 hR hS => ?_)
    have f_8 := w_7
    refine lv_iload hC.x hC.b dX1_judgeSuspect_26 (lv_at hl 0 rfl) ?_
    refine goip (runS (As := [.int v_1]) (rest := [.int v_6]) hC hK hR hl.1 (c_J9_abs_0f7a4 l hG σ τ v_1 ) (call_b hC.ts TC_J9_abs_0f7a4 TN_J9 TM_X1_159 hd_J9_abs_0f7a4 ⟨Nat.le_of_ble_eq_true rfl, Nat.le_of_ble_eq_true rfl⟩) TT_J9_abs_0f7a4 rfl rfl (Nat.le_of_ble_eq_true rfl) dX1_judgeSuspect_28 ⟨Nat.le_of_ble_eq_true rfl, Nat.le_of_ble_eq_true rfl⟩) hS (fun v_9 H locs w_10 hR hS => ?_)
    have f_11 := w_10
    refine lv_iconst (v := 1) hC.x hC.b dX1_judgeSuspect_31 (by decide) ?_
    refine lv_iadd hC.x hC.b dX1_judgeSuspect_32 ?_
    refine lv_iconst (v := 2) hC.x hC.b dX1_judgeSuspect_33 (by decide) ?_
    refine lv_idiv hC.x hC.b dX1_judgeSuspect_34 (by decide) ?_
    refine bi_lt (tgt := 42) (a := v_6.toInt) (b := ((v_9 + (1 : Int32)) / (2 : Int32)).toInt) hC.x hC.b rfl rfl dX1_judgeSuspect_35 (by decide) (fun c_12 => ?_) (fun c_12 => ?_)
    · skip
      refine lv_iconst (v := 0) hC.x hC.b dX1_judgeSuspect_42 (by decide) ?_
      refine lv_istore (lv' := [(5, .int (0 : Int32)), (4, .int v_1), (0, .ref (G.2.1 21)), (1, .ref (G.2.1 (80 + cq))), (2, .int hr), (3, .int ma)]) hC.x hC.b dX1_judgeSuspect_43 hl (by decide) rfl (fun ls hl => ?_)
      refine lv_iload hC.x hC.b dX1_judgeSuspect_45 (lv_at hl 1 rfl) ?_
      refine lv_ldc hC.x hC.b hC.ow (hC.ts _ TK_X1_127) dX1_judgeSuspect_47 ?_
      refine bi_eq (tgt := 88) (a := v_1.toInt) (b := 2000000000) hC.x hC.b rfl rfl dX1_judgeSuspect_49 (by decide) (fun c_13 => ?_) (fun c_13 => ?_)
      · skip
        exact retv hC hK hR hS (by exact CG.rf) dX1_judgeSuspect_88
      · skip
        refine lv_iload hC.x hC.b dX1_judgeSuspect_52 (lv_at hl 0 rfl) ?_
        refine bz_eq (tgt := 88) (a := 0) (b := 0) hC.x hC.b rfl rfl dX1_judgeSuspect_54 (by decide) (fun _ => ?_) (fun c_14 => absurd c_14 (by decide))
        exact retv hC hK hR hS (by exact CG.rf) dX1_judgeSuspect_88
    · skip
      refine lv_iconst (v := 1) hC.x hC.b dX1_judgeSuspect_38 (by decide) ?_
      refine lv_goto (tgt := 43) hC.x hC.b dX1_judgeSuspect_39 (by decide) ?_
      refine lv_istore (lv' := [(5, .int (1 : Int32)), (4, .int v_1), (0, .ref (G.2.1 21)), (1, .ref (G.2.1 (80 + cq))), (2, .int hr), (3, .int ma)]) hC.x hC.b dX1_judgeSuspect_43 hl (by decide) rfl (fun ls hl => ?_)
      refine lv_iload hC.x hC.b dX1_judgeSuspect_45 (lv_at hl 1 rfl) ?_
      refine lv_ldc hC.x hC.b hC.ow (hC.ts _ TK_X1_127) dX1_judgeSuspect_47 ?_
      refine bi_eq (tgt := 88) (a := v_1.toInt) (b := 2000000000) hC.x hC.b rfl rfl dX1_judgeSuspect_49 (by decide) (fun c_15 => ?_) (fun c_15 => ?_)
      · skip
        exact retv hC hK hR hS (by exact CG.rf) dX1_judgeSuspect_88
      · skip
        refine lv_iload hC.x hC.b dX1_judgeSuspect_52 (lv_at hl 0 rfl) ?_
        refine bz_eq (tgt := 88) (a := 1) (b := 0) hC.x hC.b rfl rfl dX1_judgeSuspect_54 (by decide) (fun c_16 => absurd c_16 (by decide)) (fun _ => ?_)
        refine lv_aload_n hC.x hC.b dX1_judgeSuspect_57 rfl (lv_at hl 3 rfl) ?_
        refine lv_iconst (v := 1) hC.x hC.b dX1_judgeSuspect_58 (by decide) ?_
        refine rputi hC hK hG hR hS (ct_clock hcq G _ _) rfl uin_X0 tyX0 tyX0_ok nmX0 7 (by decide) TF_X1_138 rfl (Or.inr ⟨rfl, (Or.inr rfl)⟩) (Nat.le_of_ble_eq_true rfl) rfl (ct_clock hcq G _ _) dX1_judgeSuspect_59 (fun s_18 es_17 H locs hR hS => ?_)
        refine lv_aload_n hC.x hC.b dX1_judgeSuspect_62 rfl (lv_at hl 3 rfl) ?_
        refine lv_dup hC.x hC.b dX1_judgeSuspect_63 rfl ?_
        refine rget hC hK hR (ct_clock hcq G _ _) rfl uin_X0 10 (by decide) TF_X1_173 rfl dX1_judgeSuspect_64 ?_
        have rd_19 : (s_18 (80 + cq) 10).toInt = (σ (80 + cq) 10).toInt := congrArg Int32.toInt (show s_18 (80 + cq) 10 = σ (80 + cq) 10 from (by rw [es_17]; exact up2_n (by omega)))
        refine lv_iconst (v := 1) hC.x hC.b dX1_judgeSuspect_67 (by decide) ?_
        refine lv_iadd hC.x hC.b dX1_judgeSuspect_68 ?_
        refine rputi hC hK hG hR hS (ct_clock hcq G _ _) rfl uin_X0 tyX0 tyX0_ok nmX0 10 (by decide) TF_X1_173 rfl (Or.inl rfl) (Nat.le_of_ble_eq_true rfl) rfl (ct_clock hcq G _ _) dX1_judgeSuspect_69 (fun s_21 es_20 H locs hR hS => ?_)
        refine lv_aload_n hC.x hC.b dX1_judgeSuspect_72 rfl (lv_at hl 2 rfl) ?_
        refine rget hC hK hR (ct_closing G _ _) rfl uin_X1 4 (by decide) TF_X1_35 rfl dX1_judgeSuspect_73 ?_
        refine lv_iload_n hC.x hC.b dX1_judgeSuspect_76 rfl (lv_at hl 4 rfl) ?_
        refine lv_iconst (v := 1) hC.x hC.b dX1_judgeSuspect_77 (by decide) ?_
        refine lv_isub hC.x hC.b dX1_judgeSuspect_78 ?_
        refine lv_aload_n hC.x hC.b dX1_judgeSuspect_79 rfl (lv_at hl 3 rfl) ?_
        refine rget hC hK hR (ct_clock hcq G _ _) rfl uin_X0 0 (by decide) TF_X1_62 rfl dX1_judgeSuspect_80 ?_
        refine lv_iload hC.x hC.b dX1_judgeSuspect_83 (lv_at hl 1 rfl) ?_
        have av_22 : (nI cq).toInt = ((cq : Nat) : Int) := (nI_T _ (by omega))
        refine gov (runV (As := [.int (hr - (1 : Int32)), .int (nI cq), .int v_1]) (rest := []) hC hK hR hl.1 (c4_X6_add l hG s_21 τ (hr - (1 : Int32)) (nI cq) v_1 ) (call_b hC.ts TC_X6_add TN_X6 TM_X1_175 hd_X6_add ⟨Nat.le_of_ble_eq_true rfl, Nat.le_of_ble_eq_true rfl⟩) TI_X6_add TS_X6_add (ct_steps G _ _) rfl rfl rfl (Nat.le_of_ble_eq_true rfl) dX1_judgeSuspect_85 ⟨Nat.le_of_ble_eq_true rfl, Nat.le_of_ble_eq_true rfl⟩) hS (fun s_25 t_26 H locs w_24 hR hS => ?_)
        try dsimp only [po4_X6_add] at w_24
        have f_27 := w_24
        exact retv hC hK hR hS (by exact (CG.tr (by rw [es_20]; exact CG.upc ((by rw [es_17]; exact CG.upc (CG.rf) hcq (by omega))) hcq (by omega)) f_27)) dX1_judgeSuspect_88
  · skip
    refine bz_eq (tgt := 42) (a := 0) (b := 0) hC.x hC.b rfl rfl dX1_judgeSuspect_19 (by decide) (fun _ => ?_) (fun c_28 => absurd c_28 (by decide))
    refine lv_iconst (v := 0) hC.x hC.b dX1_judgeSuspect_42 (by decide) ?_
    refine lv_istore (lv' := [(5, .int (0 : Int32)), (4, .int v_1), (0, .ref (G.2.1 21)), (1, .ref (G.2.1 (80 + cq))), (2, .int hr), (3, .int ma)]) hC.x hC.b dX1_judgeSuspect_43 hl (by decide) rfl (fun ls hl => ?_)
    refine lv_iload hC.x hC.b dX1_judgeSuspect_45 (lv_at hl 1 rfl) ?_
    refine lv_ldc hC.x hC.b hC.ow (hC.ts _ TK_X1_127) dX1_judgeSuspect_47 ?_
    refine bi_eq (tgt := 88) (a := v_1.toInt) (b := 2000000000) hC.x hC.b rfl rfl dX1_judgeSuspect_49 (by decide) (fun c_29 => ?_) (fun c_29 => ?_)
    · skip
      exact retv hC hK hR hS (by exact CG.rf) dX1_judgeSuspect_88
    · skip
      refine lv_iload hC.x hC.b dX1_judgeSuspect_52 (lv_at hl 0 rfl) ?_
      refine bz_eq (tgt := 88) (a := 0) (b := 0) hC.x hC.b rfl rfl dX1_judgeSuspect_54 (by decide) (fun _ => ?_) (fun c_30 => absurd c_30 (by decide))
      exact retv hC hK hR hS (by exact CG.rf) dX1_judgeSuspect_88

abbrev po4_X1_judge (σ : SI) (τ : SL) (cq : Nat) (hr : Int32) (ma : Int32) (ti : Int32) : SI × SL → Prop := fun u => ((CG σ u.1))
set_option maxRecDepth 100000 in
set_option maxHeartbeats 4000000 in
theorem c4_X1_judge (l : Launch) {G : Gx} {A : Nat → Prop} (hG : GOk G A) (σ : SI) (τ : SL) (cq : Nat) (hcq : cq < 24) (hr : Int32) (ma : Int32) (ti : Int32) (hhr : 0 ≤ hr.toInt ∧ hr.toInt ≤ 200) : MV l G A 3 yX1_judge cX1_judge 5 none [.ref (G.2.1 21), .ref (G.2.1 (80 + cq)), .int hr, .int ma, .int ti] (σ, τ) (po4_X1_judge σ τ cq hr ma ti) := by
  refine met_of (own := RX1) (by decide +kernel) rfl [(0, .ref (G.2.1 21)), (1, .ref (G.2.1 (80 + cq))), (2, .int hr), (3, .int ma), (4, .int ti)] rfl (Nat.le_of_ble_eq_true rfl) ?_
  intro p e s m args below meth c ls hC hK hR hl
  have hS : va_S A s.heap s.heap [] := va_S.rf
  refine lv_aload_n hC.x hC.b dX1_judge_0 rfl (lv_at hl 0 rfl) ?_
  refine rget hC hK hR (ct_closing G _ _) rfl uin_X1 3 (by decide) TF_X1_31 rfl dX1_judge_1 ?_
  refine lv_aload_n hC.x hC.b dX1_judge_4 rfl (lv_at hl 1 rfl) ?_
  refine lv_iload_n hC.x hC.b dX1_judge_5 rfl (lv_at hl 2 rfl) ?_
  refine goip (runV (As := [.ref (G.2.1 (80 + cq)), .int hr]) (rest := []) hC hK hR hl.1 (c_X2_drifts l hG σ τ cq hcq hr (by first | omega | assumption)) (call_b hC.ts TC_X2_drifts TN_X2 TM_X1_146 hd_X2_drifts ⟨Nat.le_of_ble_eq_true rfl, Nat.le_of_ble_eq_true rfl⟩) TI_X2_drifts TS_X2_drifts (ct_fore G _ _) rfl rfl rfl (Nat.le_of_ble_eq_true rfl) dX1_judge_6 ⟨Nat.le_of_ble_eq_true rfl, Nat.le_of_ble_eq_true rfl⟩) hS (fun v_1 H locs w_2 hR hS => ?_)
  rcases w_2 with rfl | rfl
  · skip
    refine bz_eq (tgt := 22) (a := 1) (b := 0) hC.x hC.b rfl rfl dX1_judge_9 (by decide) (fun c_3 => absurd c_3 (by decide)) (fun _ => ?_)
    refine lv_aload_n hC.x hC.b dX1_judge_12 rfl (lv_at hl 1 rfl) ?_
    refine lv_dup hC.x hC.b dX1_judge_13 rfl ?_
    refine rget hC hK hR (ct_clock hcq G _ _) rfl uin_X0 11 (by decide) TF_X1_150 rfl dX1_judge_14 ?_
    refine lv_iconst (v := 1) hC.x hC.b dX1_judge_17 (by decide) ?_
    refine lv_iadd hC.x hC.b dX1_judge_18 ?_
    refine rputi hC hK hG hR hS (ct_clock hcq G _ _) rfl uin_X0 tyX0 tyX0_ok nmX0 11 (by decide) TF_X1_150 rfl (Or.inl rfl) (Nat.le_of_ble_eq_true rfl) rfl (ct_clock hcq G _ _) dX1_judge_19 (fun s_5 es_4 H locs hR hS => ?_)
    refine lv_aload_n hC.x hC.b dX1_judge_22 rfl (lv_at hl 1 rfl) ?_
    refine rget hC hK hR (ct_clock hcq G _ _) rfl uin_X0 9 (by decide) TF_X1_152 rfl dX1_judge_23 ?_
    have rd_6 : (s_5 (80 + cq) 9).toInt = (σ (80 + cq) 9).toInt := congrArg Int32.toInt (show s_5 (80 + cq) 9 = σ (80 + cq) 9 from (by rw [es_4]; exact up2_n (by omega)))
    refine lv_iload_n hC.x hC.b dX1_judge_26 rfl (lv_at hl 2 rfl) ?_
    refine lv_iconst (v := 1) hC.x hC.b dX1_judge_27 (by decide) ?_
    refine lv_isub hC.x hC.b dX1_judge_28 ?_
    refine bi_ne (tgt := 42) (a := (s_5 (80 + cq) 9).toInt) (b := (hr - (1 : Int32)).toInt) hC.x hC.b rfl rfl dX1_judge_29 (by decide) (fun c_7 => ?_) (fun c_7 => ?_)
    · skip
      refine lv_iload_n hC.x hC.b dX1_judge_42 rfl (lv_at hl 3 rfl) ?_
      refine goip (runS (As := [.int ma]) (rest := []) hC hK hR hl.1 (c_J9_abs_0f7a4 l hG s_5 τ ma ) (call_b hC.ts TC_J9_abs_0f7a4 TN_J9 TM_X1_159 hd_J9_abs_0f7a4 ⟨Nat.le_of_ble_eq_true rfl, Nat.le_of_ble_eq_true rfl⟩) TT_J9_abs_0f7a4 rfl rfl (Nat.le_of_ble_eq_true rfl) dX1_judge_43 ⟨Nat.le_of_ble_eq_true rfl, Nat.le_of_ble_eq_true rfl⟩) hS (fun v_8 H locs w_9 hR hS => ?_)
      have f_10 := w_9
      refine lv_i2l hC.x hC.b dX1_judge_46 rfl ?_
      refine lv_iload hC.x hC.b dX1_judge_47 (lv_at hl 4 rfl) ?_
      refine lv_i2l hC.x hC.b dX1_judge_49 rfl ?_
      refine lv_aload_n hC.x hC.b dX1_judge_50 rfl (lv_at hl 0 rfl) ?_
      refine rget hC hK hR (ct_closing G _ _) rfl uin_X1 3 (by decide) TF_X1_31 rfl dX1_judge_51 ?_
      refine lv_aload_n hC.x hC.b dX1_judge_54 rfl (lv_at hl 1 rfl) ?_
      refine lv_iload_n hC.x hC.b dX1_judge_55 rfl (lv_at hl 2 rfl) ?_
      refine gol (runV (As := [.ref (G.2.1 (80 + cq)), .int hr]) (rest := [.long ti.toInt64, .long v_8.toInt64]) hC hK hR hl.1 (c_X2_usuallyMissedBy l hG s_5 τ cq hcq hr ) (call_b hC.ts TC_X2_usuallyMissedBy TN_X2 TM_X1_162 hd_X2_usuallyMissedBy ⟨Nat.le_of_ble_eq_true rfl, Nat.le_of_ble_eq_true rfl⟩) TI_X2_usuallyMissedBy TS_X2_usuallyMissedBy (ct_fore G _ _) rfl rfl rfl (Nat.le_of_ble_eq_true rfl) dX1_judge_56 ⟨Nat.le_of_ble_eq_true rfl, Nat.le_of_ble_eq_true rfl⟩) hS (fun v_11 s_13 t_14 H locs w_12 hR hS => ?_)
      try dsimp only [po_X2_usuallyMissedBy] at w_12
      have f_15 := w_12
      refine lv_lconst (v := 1) hC.x hC.b dX1_judge_59 (by decide) ?_
      refine lv_ladd hC.x hC.b dX1_judge_60 ?_
      refine lv_lmul hC.x hC.b dX1_judge_61 ?_
      refine bl_le (tgt := 71) (a := v_8.toInt) (b := (ti.toInt64 * (v_11 + (1 : Int64))).toInt) hC.x hC.b (i2lI rfl) rfl dX1_judge_62 dX1_judge_63 (by decide) (fun c_16 => ?_) (fun c_16 => ?_)
      · skip
        exact retv hC hK hR hS (by exact (CG.tr (by rw [es_4]; exact CG.upc (CG.rf) hcq (by omega)) (CG.fore f_15))) dX1_judge_71
      · skip
        refine lv_aload_n hC.x hC.b dX1_judge_66 rfl (lv_at hl 1 rfl) ?_
        refine lv_iload_n hC.x hC.b dX1_judge_67 rfl (lv_at hl 2 rfl) ?_
        refine rputi hC hK hG hR hS (ct_clock hcq G _ _) rfl uin_X0 tyX0 tyX0_ok nmX0 9 (by decide) TF_X1_152 rfl (Or.inl rfl) (Nat.le_of_ble_eq_true rfl) rfl (ct_clock hcq G _ _) dX1_judge_68 (fun s_18 es_17 H locs hR hS => ?_)
        exact retv hC hK hR hS (by exact (by rw [es_17]; exact CG.upc ((CG.tr (by rw [es_4]; exact CG.upc (CG.rf) hcq (by omega)) (CG.fore f_15))) hcq (by omega))) dX1_judge_71
    · skip
      refine lv_aload_n hC.x hC.b dX1_judge_32 rfl (lv_at hl 0 rfl) ?_
      refine lv_aload_n hC.x hC.b dX1_judge_33 rfl (lv_at hl 1 rfl) ?_
      refine lv_iload_n hC.x hC.b dX1_judge_34 rfl (lv_at hl 2 rfl) ?_
      refine lv_iload_n hC.x hC.b dX1_judge_35 rfl (lv_at hl 3 rfl) ?_
      refine gov (runV (As := [.ref (G.2.1 (80 + cq)), .int hr, .int ma]) (rest := []) hC hK hR hl.1 (c4_X1_judgeSuspect l hG s_5 τ cq hcq hr ma (by first | omega | assumption)) (call_b hC.ts TC_X1_judgeSuspect TN_X1 TM_X1_155 hd_X1_judgeSuspect ⟨Nat.le_of_ble_eq_true rfl, Nat.le_of_ble_eq_true rfl⟩) TI_X1_judgeSuspect TS_X1_judgeSuspect (ct_closing G _ _) rfl rfl rfl (Nat.le_of_ble_eq_true rfl) dX1_judge_36 ⟨Nat.le_of_ble_eq_true rfl, Nat.le_of_ble_eq_true rfl⟩) hS (fun s_21 t_22 H locs w_20 hR hS => ?_)
      try dsimp only [po4_X1_judgeSuspect] at w_20
      have f_23 := w_20
      refine lv_goto (tgt := 71) hC.x hC.b dX1_judge_39 (by decide) ?_
      exact retv hC hK hR hS (by exact (CG.tr (by rw [es_4]; exact CG.upc (CG.rf) hcq (by omega)) f_23)) dX1_judge_71
  · skip
    refine bz_eq (tgt := 22) (a := 0) (b := 0) hC.x hC.b rfl rfl dX1_judge_9 (by decide) (fun _ => ?_) (fun c_24 => absurd c_24 (by decide))
    refine lv_aload_n hC.x hC.b dX1_judge_22 rfl (lv_at hl 1 rfl) ?_
    refine rget hC hK hR (ct_clock hcq G _ _) rfl uin_X0 9 (by decide) TF_X1_152 rfl dX1_judge_23 ?_
    refine lv_iload_n hC.x hC.b dX1_judge_26 rfl (lv_at hl 2 rfl) ?_
    refine lv_iconst (v := 1) hC.x hC.b dX1_judge_27 (by decide) ?_
    refine lv_isub hC.x hC.b dX1_judge_28 ?_
    refine bi_ne (tgt := 42) (a := (σ (80 + cq) 9).toInt) (b := (hr - (1 : Int32)).toInt) hC.x hC.b rfl rfl dX1_judge_29 (by decide) (fun c_25 => ?_) (fun c_25 => ?_)
    · skip
      refine lv_iload_n hC.x hC.b dX1_judge_42 rfl (lv_at hl 3 rfl) ?_
      refine goip (runS (As := [.int ma]) (rest := []) hC hK hR hl.1 (c_J9_abs_0f7a4 l hG σ τ ma ) (call_b hC.ts TC_J9_abs_0f7a4 TN_J9 TM_X1_159 hd_J9_abs_0f7a4 ⟨Nat.le_of_ble_eq_true rfl, Nat.le_of_ble_eq_true rfl⟩) TT_J9_abs_0f7a4 rfl rfl (Nat.le_of_ble_eq_true rfl) dX1_judge_43 ⟨Nat.le_of_ble_eq_true rfl, Nat.le_of_ble_eq_true rfl⟩) hS (fun v_26 H locs w_27 hR hS => ?_)
      have f_28 := w_27
      refine lv_i2l hC.x hC.b dX1_judge_46 rfl ?_
      refine lv_iload hC.x hC.b dX1_judge_47 (lv_at hl 4 rfl) ?_
      refine lv_i2l hC.x hC.b dX1_judge_49 rfl ?_
      refine lv_aload_n hC.x hC.b dX1_judge_50 rfl (lv_at hl 0 rfl) ?_
      refine rget hC hK hR (ct_closing G _ _) rfl uin_X1 3 (by decide) TF_X1_31 rfl dX1_judge_51 ?_
      refine lv_aload_n hC.x hC.b dX1_judge_54 rfl (lv_at hl 1 rfl) ?_
      refine lv_iload_n hC.x hC.b dX1_judge_55 rfl (lv_at hl 2 rfl) ?_
      refine gol (runV (As := [.ref (G.2.1 (80 + cq)), .int hr]) (rest := [.long ti.toInt64, .long v_26.toInt64]) hC hK hR hl.1 (c_X2_usuallyMissedBy l hG σ τ cq hcq hr ) (call_b hC.ts TC_X2_usuallyMissedBy TN_X2 TM_X1_162 hd_X2_usuallyMissedBy ⟨Nat.le_of_ble_eq_true rfl, Nat.le_of_ble_eq_true rfl⟩) TI_X2_usuallyMissedBy TS_X2_usuallyMissedBy (ct_fore G _ _) rfl rfl rfl (Nat.le_of_ble_eq_true rfl) dX1_judge_56 ⟨Nat.le_of_ble_eq_true rfl, Nat.le_of_ble_eq_true rfl⟩) hS (fun v_29 s_31 t_32 H locs w_30 hR hS => ?_)
      try dsimp only [po_X2_usuallyMissedBy] at w_30
      have f_33 := w_30
      refine lv_lconst (v := 1) hC.x hC.b dX1_judge_59 (by decide) ?_
      refine lv_ladd hC.x hC.b dX1_judge_60 ?_
      refine lv_lmul hC.x hC.b dX1_judge_61 ?_
      refine bl_le (tgt := 71) (a := v_26.toInt) (b := (ti.toInt64 * (v_29 + (1 : Int64))).toInt) hC.x hC.b (i2lI rfl) rfl dX1_judge_62 dX1_judge_63 (by decide) (fun c_34 => ?_) (fun c_34 => ?_)
      · skip
        exact retv hC hK hR hS (by exact (CG.tr CG.rf (CG.fore f_33))) dX1_judge_71
      · skip
        refine lv_aload_n hC.x hC.b dX1_judge_66 rfl (lv_at hl 1 rfl) ?_
        refine lv_iload_n hC.x hC.b dX1_judge_67 rfl (lv_at hl 2 rfl) ?_
        refine rputi hC hK hG hR hS (ct_clock hcq G _ _) rfl uin_X0 tyX0 tyX0_ok nmX0 9 (by decide) TF_X1_152 rfl (Or.inl rfl) (Nat.le_of_ble_eq_true rfl) rfl (ct_clock hcq G _ _) dX1_judge_68 (fun s_36 es_35 H locs hR hS => ?_)
        exact retv hC hK hR hS (by exact (by rw [es_35]; exact CG.upc ((CG.tr CG.rf (CG.fore f_33))) hcq (by omega))) dX1_judge_71
    · skip
      refine lv_aload_n hC.x hC.b dX1_judge_32 rfl (lv_at hl 0 rfl) ?_
      refine lv_aload_n hC.x hC.b dX1_judge_33 rfl (lv_at hl 1 rfl) ?_
      refine lv_iload_n hC.x hC.b dX1_judge_34 rfl (lv_at hl 2 rfl) ?_
      refine lv_iload_n hC.x hC.b dX1_judge_35 rfl (lv_at hl 3 rfl) ?_
      refine gov (runV (As := [.ref (G.2.1 (80 + cq)), .int hr, .int ma]) (rest := []) hC hK hR hl.1 (c4_X1_judgeSuspect l hG σ τ cq hcq hr ma (by first | omega | assumption)) (call_b hC.ts TC_X1_judgeSuspect TN_X1 TM_X1_155 hd_X1_judgeSuspect ⟨Nat.le_of_ble_eq_true rfl, Nat.le_of_ble_eq_true rfl⟩) TI_X1_judgeSuspect TS_X1_judgeSuspect (ct_closing G _ _) rfl rfl rfl (Nat.le_of_ble_eq_true rfl) dX1_judge_36 ⟨Nat.le_of_ble_eq_true rfl, Nat.le_of_ble_eq_true rfl⟩) hS (fun s_39 t_40 H locs w_38 hR hS => ?_)
      try dsimp only [po4_X1_judgeSuspect] at w_38
      have f_41 := w_38
      refine lv_goto (tgt := 71) hC.x hC.b dX1_judge_39 (by decide) ?_
      exact retv hC hK hR hS (by exact (CG.tr CG.rf f_41)) dX1_judge_71

abbrev po4_X1_judgeAll (σ : SI) (τ : SL) (hr : Int32) (ti : Int32) : SI × SL → Prop := fun u => ((CG σ u.1))
set_option maxRecDepth 100000 in
set_option maxHeartbeats 4000000 in
theorem c4_X1_judgeAll (l : Launch) {G : Gx} {A : Nat → Prop} (hG : GOk G A) (σ : SI) (τ : SL) (hr : Int32) (ti : Int32) (hhr : 0 ≤ hr.toInt ∧ hr.toInt ≤ 200) : MV l G A 4 yX1_judgeAll cX1_judgeAll 6 none [.ref (G.2.1 21), .int hr, .int ti] (σ, τ) (po4_X1_judgeAll σ τ hr ti) := by
  refine met_of (own := RX1) (by decide +kernel) rfl [(0, .ref (G.2.1 21)), (1, .int hr), (2, .int ti)] rfl (Nat.le_of_ble_eq_true rfl) ?_
  intro p e s m args below meth c ls hC hK hR hl
  have hS : va_S A s.heap s.heap [] := va_S.rf
  refine lv_iconst (v := 0) hC.x hC.b dX1_judgeAll_0 (by decide) ?_
  refine lv_istore_n (lv' := [(3, .int (0 : Int32)), (0, .ref (G.2.1 21)), (1, .int hr), (2, .int ti)]) hC.x hC.b dX1_judgeAll_1 rfl hl (by decide) rfl (fun ls hl => ?_)
  have L_2 : ∀ (F : Nat) (n : Nat) (s1 : SI) (t1 : SL), (24 - n) < F → (n ≤ 24) → (CG σ s1) → ∀ (H : Heap) (locs : List Loc) (ls : Array Slot), RepH G s1 t1 H → va_S A s.heap H locs → lv_has ls 6 [(0, .ref (G.2.1 21)), (1, .int hr), (2, .int ti), (3, .int (nI n))] → W p l e (rmD 4) s m args below meth c H locs 0 0 (MQ below (va_Qv (po4_X1_judgeAll σ τ hr ti) (BU G) A) args s 0 0 A) (F0 m 2 ls []) := by
    intro F
    induction F with
    | zero => intro n s1 t1 hm; exact absurd hm (Nat.not_lt_zero _)
    | succ F ih_2 =>
      intro n s1 t1 hm_2 hi0_2 hi1_2 H locs ls hR hS hl
      have hnI := nI_T n (by omega)
      refine lv_iload_n hC.x hC.b dX1_judgeAll_2 rfl (lv_at hl 3 rfl) ?_
      refine lv_bipush (v := 24) hC.x hC.b dX1_judgeAll_3 (by decide) ?_
      refine bi_ge (tgt := 66) (a := (n : Int)) (b := 24) hC.x hC.b (nI_T n (by omega)) rfl dX1_judgeAll_5 (by decide) (fun c_1 => ?_) (fun c_1 => ?_)
      · skip
        exact retv hC hK hR hS (by exact hi1_2) dX1_judgeAll_66
      · skip
        refine lv_aload_n hC.x hC.b dX1_judgeAll_8 rfl (lv_at hl 0 rfl) ?_
        refine rget hC hK hR (ct_closing G _ _) rfl uin_X1 0 (by decide) TF_X1_19 rfl dX1_judgeAll_9 ?_
        refine lv_iload_n hC.x hC.b dX1_judgeAll_12 rfl (lv_at hl 3 rfl) ?_
        have av_2 : (nI n).toInt = (n : Int) := (nI_T n (by omega))
        refine goqp (runV (As := [.int (nI n)]) (rest := []) hC hK hR hl.1 (c_X5_clockAt l hG s1 t1 (nI n) n (by first | rfl | (rw [show (nI n).toInt = (n : Int) from (nI_T n (by omega))]; done) | (rw [show (nI n).toInt = (n : Int) from (nI_T n (by omega))]; exact (Int.toNat_natCast _))) ) (call_b hC.ts TC_X5_clockAt TN_X5 TM_X1_73 hd_X5_clockAt ⟨Nat.le_of_ble_eq_true rfl, Nat.le_of_ble_eq_true rfl⟩) TI_X5_clockAt TS_X5_clockAt (ct_shelf G _ _) rfl rfl rfl (Nat.le_of_ble_eq_true rfl) dX1_judgeAll_13 ⟨Nat.le_of_ble_eq_true rfl, Nat.le_of_ble_eq_true rfl⟩) hS (fun v_3 H locs w_4 hR hS => ?_)
        rcases w_4 with ⟨rfl, f_5⟩ | ⟨rfl, f_6, f_7, f_8, f_9⟩
        · skip
          refine lv_astoreN (lv' := [(4, .null), (0, .ref (G.2.1 21)), (1, .int hr), (2, .int ti), (3, .int (nI n))]) hC.x hC.b dX1_judgeAll_16 hl (by decide) rfl (fun ls hl => ?_)
          refine lv_aload_n hC.x hC.b dX1_judgeAll_18 rfl (lv_at hl 1 rfl) ?_
          refine rget hC hK hR (ct_closing G _ _) rfl uin_X1 2 (by decide) TF_X1_27 rfl dX1_judgeAll_19 ?_
          refine lv_iconst (v := 2) hC.x hC.b dX1_judgeAll_22 (by decide) ?_
          refine lv_iload_n hC.x hC.b dX1_judgeAll_23 rfl (lv_at hl 2 rfl) ?_
          refine lv_iload_n hC.x hC.b dX1_judgeAll_24 rfl (lv_at hl 4 rfl) ?_
          have av_10 : (2 : Int32).toInt = 2 := by decide
          have av_11 : (nI n).toInt = (n : Int) := (nI_T n (by omega))
          refine goip (runV (As := [.int (2 : Int32), .int hr, .int (nI n)]) (rest := []) hC hK hR hl.1 (c_X7_ofClock l hG s1 t1 (2 : Int32) hr (nI n) ) (call_b hC.ts TC_X7_ofClock TN_X7 TM_X1_123 hd_X7_ofClock ⟨Nat.le_of_ble_eq_true rfl, Nat.le_of_ble_eq_true rfl⟩) TI_X7_ofClock TS_X7_ofClock (ct_told G _ _) rfl rfl rfl (Nat.le_of_ble_eq_true rfl) dX1_judgeAll_25 ⟨Nat.le_of_ble_eq_true rfl, Nat.le_of_ble_eq_true rfl⟩) hS (fun v_12 H locs w_13 hR hS => ?_)
          refine lv_istore (lv' := [(5, .int v_12), (4, .null), (0, .ref (G.2.1 21)), (1, .int hr), (2, .int ti), (3, .int (nI n))]) hC.x hC.b dX1_judgeAll_28 hl (by decide) rfl (fun ls hl => ?_)
          refine lv_aloadN hC.x hC.b dX1_judgeAll_30 (lv_at hl 1 rfl) ?_
          refine lv_ifnullN (tgt := 60) hC.x hC.b dX1_judgeAll_32 (by decide) ?_
          refine lv_iinc (v := nI (n + 1)) (lv' := [(3, .int (nI (n + 1))), (5, .int v_12), (4, .null), (0, .ref (G.2.1 21)), (1, .int hr), (2, .int ti)]) hC.x hC.b dX1_judgeAll_60 hl (k := 5) rfl (nI_succ _).symm (by decide) rfl (fun ls hl => ?_)
          refine lv_goto (tgt := 2) hC.x hC.b dX1_judgeAll_63 (by decide) ?_
          exact ih_2 (n + 1) s1 t1 (by omega) (by first | omega | assumption) hi1_2 _ _ _ hR hS (lv_sub hl [3, 4, 5, 0] rfl)
        · skip
          have hq_14 : n < 24 := by omega
          refine lv_astore (lv' := [(4, .ref (G.2.1 (80 + n))), (0, .ref (G.2.1 21)), (1, .int hr), (2, .int ti), (3, .int (nI n))]) hC.x hC.b dX1_judgeAll_16 hl (by decide) rfl (fun ls hl => ?_)
          refine lv_aload_n hC.x hC.b dX1_judgeAll_18 rfl (lv_at hl 1 rfl) ?_
          refine rget hC hK hR (ct_closing G _ _) rfl uin_X1 2 (by decide) TF_X1_27 rfl dX1_judgeAll_19 ?_
          refine lv_iconst (v := 2) hC.x hC.b dX1_judgeAll_22 (by decide) ?_
          refine lv_iload_n hC.x hC.b dX1_judgeAll_23 rfl (lv_at hl 2 rfl) ?_
          refine lv_iload_n hC.x hC.b dX1_judgeAll_24 rfl (lv_at hl 4 rfl) ?_
          have av_15 : (2 : Int32).toInt = 2 := by decide
          have av_16 : (nI n).toInt = (n : Int) := (nI_T n (by omega))
          refine goip (runV (As := [.int (2 : Int32), .int hr, .int (nI n)]) (rest := []) hC hK hR hl.1 (c_X7_ofClock l hG s1 t1 (2 : Int32) hr (nI n) ) (call_b hC.ts TC_X7_ofClock TN_X7 TM_X1_123 hd_X7_ofClock ⟨Nat.le_of_ble_eq_true rfl, Nat.le_of_ble_eq_true rfl⟩) TI_X7_ofClock TS_X7_ofClock (ct_told G _ _) rfl rfl rfl (Nat.le_of_ble_eq_true rfl) dX1_judgeAll_25 ⟨Nat.le_of_ble_eq_true rfl, Nat.le_of_ble_eq_true rfl⟩) hS (fun v_17 H locs w_18 hR hS => ?_)
          refine lv_istore (lv' := [(5, .int v_17), (4, .ref (G.2.1 (80 + n))), (0, .ref (G.2.1 21)), (1, .int hr), (2, .int ti), (3, .int (nI n))]) hC.x hC.b dX1_judgeAll_28 hl (by decide) rfl (fun ls hl => ?_)
          refine lv_aload hC.x hC.b dX1_judgeAll_30 (lv_at hl 1 rfl) ?_
          refine lv_ifnull hC.x hC.b dX1_judgeAll_32 ?_
          refine lv_aload hC.x hC.b dX1_judgeAll_35 (lv_at hl 1 rfl) ?_
          refine rget hC hK hR (ct_clock hq_14 G _ _) rfl uin_X0 7 (by decide) TF_X1_138 rfl dX1_judgeAll_37 ?_
          refine bz_ne (tgt := 60) (a := (s1 (80 + n) 7).toInt) (b := 0) hC.x hC.b rfl rfl dX1_judgeAll_40 (by decide) (fun c_19 => ?_) (fun c_19 => ?_)
          · skip
            refine lv_iinc (v := nI (n + 1)) (lv' := [(3, .int (nI (n + 1))), (5, .int v_17), (4, .ref (G.2.1 (80 + n))), (0, .ref (G.2.1 21)), (1, .int hr), (2, .int ti)]) hC.x hC.b dX1_judgeAll_60 hl (k := 5) rfl (nI_succ _).symm (by decide) rfl (fun ls hl => ?_)
            refine lv_goto (tgt := 2) hC.x hC.b dX1_judgeAll_63 (by decide) ?_
            exact ih_2 (n + 1) s1 t1 (by omega) (by first | omega | assumption) hi1_2 _ _ _ hR hS (lv_sub hl [3, 4, 5, 0] rfl)
          · skip
            refine lv_iload hC.x hC.b dX1_judgeAll_43 (lv_at hl 0 rfl) ?_
            refine lv_ldc hC.x hC.b hC.ow (hC.ts _ TK_X1_127) dX1_judgeAll_45 ?_
            refine bi_eq (tgt := 60) (a := v_17.toInt) (b := 2000000000) hC.x hC.b rfl rfl dX1_judgeAll_47 (by decide) (fun c_20 => ?_) (fun c_20 => ?_)
            · skip
              refine lv_iinc (v := nI (n + 1)) (lv' := [(3, .int (nI (n + 1))), (5, .int v_17), (4, .ref (G.2.1 (80 + n))), (0, .ref (G.2.1 21)), (1, .int hr), (2, .int ti)]) hC.x hC.b dX1_judgeAll_60 hl (k := 5) rfl (nI_succ _).symm (by decide) rfl (fun ls hl => ?_)
              refine lv_goto (tgt := 2) hC.x hC.b dX1_judgeAll_63 (by decide) ?_
              exact ih_2 (n + 1) s1 t1 (by omega) (by first | omega | assumption) hi1_2 _ _ _ hR hS (lv_sub hl [3, 4, 5, 0] rfl)
            · skip
              refine lv_aload_n hC.x hC.b dX1_judgeAll_50 rfl (lv_at hl 2 rfl) ?_
              refine lv_aload hC.x hC.b dX1_judgeAll_51 (lv_at hl 1 rfl) ?_
              refine lv_iload_n hC.x hC.b dX1_judgeAll_53 rfl (lv_at hl 3 rfl) ?_
              refine lv_iload hC.x hC.b dX1_judgeAll_54 (lv_at hl 0 rfl) ?_
              refine lv_iload_n hC.x hC.b dX1_judgeAll_56 rfl (lv_at hl 4 rfl) ?_
              refine gov (runV (As := [.ref (G.2.1 (80 + n)), .int hr, .int v_17, .int ti]) (rest := []) hC hK hR hl.1 (c4_X1_judge l hG s1 t1 n hq_14 hr v_17 ti (by first | omega | assumption)) (call_b hC.ts TC_X1_judge TN_X1 TM_X1_142 hd_X1_judge ⟨Nat.le_of_ble_eq_true rfl, Nat.le_of_ble_eq_true rfl⟩) TI_X1_judge TS_X1_judge (ct_closing G _ _) rfl rfl rfl (Nat.le_of_ble_eq_true rfl) dX1_judgeAll_57 ⟨Nat.le_of_ble_eq_true rfl, Nat.le_of_ble_eq_true rfl⟩) hS (fun s_23 t_24 H locs w_22 hR hS => ?_)
              try dsimp only [po4_X1_judge] at w_22
              have f_25 := w_22
              refine lv_iinc (v := nI (n + 1)) (lv' := [(3, .int (nI (n + 1))), (5, .int v_17), (4, .ref (G.2.1 (80 + n))), (0, .ref (G.2.1 21)), (1, .int hr), (2, .int ti)]) hC.x hC.b dX1_judgeAll_60 hl (k := 5) rfl (nI_succ _).symm (by decide) rfl (fun ls hl => ?_)
              refine lv_goto (tgt := 2) hC.x hC.b dX1_judgeAll_63 (by decide) ?_
              exact ih_2 (n + 1) s_23 t_24 (by omega) (by first | omega | assumption) (CG.tr hi1_2 f_25) _ _ _ hR hS (lv_sub hl [3, 4, 5, 0] rfl)
  exact L_2 _ 0 σ τ (Nat.lt_succ_self _) (by first | omega | assumption) CG.rf _ _ _ hR hS (lv_sub hl [1, 2, 3, 0] rfl)

abbrev po4_X1_leastTaken (G : Gx) (σ : SI) (τ : SL) : Option Nat → SI × SL → Prop := fun v u => u = (σ, τ) ∧ (((v = none) ∧ (∀ p, p < 24 → ¬ TkC σ p)) ∨ (∃ j, j < 24 ∧ (v = some (G.2.1 (80 + j))) ∧ (TkC σ j ∧ ∀ i, i < j → ¬ TkC σ i)))
set_option maxRecDepth 100000 in
set_option maxHeartbeats 4000000 in
theorem c4_X1_leastTaken (l : Launch) {G : Gx} {A : Nat → Prop} (hG : GOk G A) (σ : SI) (τ : SL) : MR l G A 2 yX1_leastTaken cX1_leastTaken 3 (some (.object "TimeBench$Clock")) [.ref (G.2.1 21)] (σ, τ) (po4_X1_leastTaken G σ τ ) := by
  refine met_of (own := RX1) (by decide +kernel) rfl [(0, .ref (G.2.1 21))] rfl (Nat.le_of_ble_eq_true rfl) ?_
  intro p e s m args below meth c ls hC hK hR hl
  have hS : va_S A s.heap s.heap [] := va_S.rf
  refine lv_iconst (v := 0) hC.x hC.b dX1_leastTaken_0 (by decide) ?_
  refine lv_istore_n (lv' := [(1, .int (0 : Int32)), (0, .ref (G.2.1 21))]) hC.x hC.b dX1_leastTaken_1 rfl hl (by decide) rfl (fun ls hl => ?_)
  have L_2 : ∀ (F : Nat) (n : Nat), (24 - n) < F → (n ≤ 24) → (∀ p, p < n → ¬ TkC σ p) → ∀ (H : Heap) (locs : List Loc) (ls : Array Slot), RepH G σ τ H → va_S A s.heap H locs → lv_has ls 3 [(0, .ref (G.2.1 21)), (1, .int (nI n))] → W p l e (rmD 2) s m args below meth c H locs 0 0 (MQ below (va_Qq (po4_X1_leastTaken G σ τ ) (BU G) A) args s 0 0 A) (F0 m 2 ls []) := by
    intro F
    induction F with
    | zero => intro n hm; exact absurd hm (Nat.not_lt_zero _)
    | succ F ih_2 =>
      intro n hm_2 hi0_2 hi1_2 H locs ls hR hS hl
      refine lv_iload_n hC.x hC.b dX1_leastTaken_2 rfl (lv_at hl 1 rfl) ?_
      refine lv_bipush (v := 24) hC.x hC.b dX1_leastTaken_3 (by decide) ?_
      refine bi_ge (tgt := 36) (a := (n : Int)) (b := 24) hC.x hC.b (nI_T n (by omega)) rfl dX1_leastTaken_5 (by decide) (fun c_1 => ?_) (fun c_1 => ?_)
      · skip
        refine lv_null hC.x hC.b dX1_leastTaken_36 ?_
        exact retn hC hK hR hS ⟨rfl, (by first | exact Or.inl (⟨by first | rfl | omega, by (have e9 : n = 24 := by omega); exact e9 ▸ hi1_2⟩) | exact False.elim (by omega))⟩ dX1_leastTaken_37
      · skip
        refine lv_aload_n hC.x hC.b dX1_leastTaken_8 rfl (lv_at hl 0 rfl) ?_
        refine rget hC hK hR (ct_closing G _ _) rfl uin_X1 0 (by decide) TF_X1_19 rfl dX1_leastTaken_9 ?_
        refine lv_iload_n hC.x hC.b dX1_leastTaken_12 rfl (lv_at hl 1 rfl) ?_
        have av_2 : (nI n).toInt = (n : Int) := (nI_T n (by omega))
        refine goqp (runV (As := [.int (nI n)]) (rest := []) hC hK hR hl.1 (c_X5_clockAt l hG σ τ (nI n) n (by first | rfl | (rw [show (nI n).toInt = (n : Int) from (nI_T n (by omega))]; done) | (rw [show (nI n).toInt = (n : Int) from (nI_T n (by omega))]; exact (Int.toNat_natCast _))) ) (call_b hC.ts TC_X5_clockAt TN_X5 TM_X1_73 hd_X5_clockAt ⟨Nat.le_of_ble_eq_true rfl, Nat.le_of_ble_eq_true rfl⟩) TI_X5_clockAt TS_X5_clockAt (ct_shelf G _ _) rfl rfl rfl (Nat.le_of_ble_eq_true rfl) dX1_leastTaken_13 ⟨Nat.le_of_ble_eq_true rfl, Nat.le_of_ble_eq_true rfl⟩) hS (fun v_3 H locs w_4 hR hS => ?_)
        rcases w_4 with ⟨rfl, f_5⟩ | ⟨rfl, f_6, f_7, f_8, f_9⟩
        · skip
          refine lv_astore_nN (lv' := [(2, .null), (0, .ref (G.2.1 21)), (1, .int (nI n))]) hC.x hC.b dX1_leastTaken_16 rfl hl (by decide) rfl (fun ls hl => ?_)
          refine lv_aload_nN hC.x hC.b dX1_leastTaken_17 rfl (lv_at hl 0 rfl) ?_
          refine lv_ifnullN (tgt := 30) hC.x hC.b dX1_leastTaken_18 (by decide) ?_
          refine lv_iinc (v := nI (n + 1)) (lv' := [(1, .int (nI (n + 1))), (2, .null), (0, .ref (G.2.1 21))]) hC.x hC.b dX1_leastTaken_30 hl (k := 2) rfl (nI_succ _).symm (by decide) rfl (fun ls hl => ?_)
          refine lv_goto (tgt := 2) hC.x hC.b dX1_leastTaken_33 (by decide) ?_
          exact ih_2 (n + 1) (by omega) (by first | omega | assumption) (by intro p hp; (rcases Nat.lt_or_eq_of_le (Nat.le_of_lt_succ hp) with e9 | e9); exact hi1_2 p e9; (rw [e9]; rintro ⟨h1, h2, h3, h4⟩; omega)) _ _ _ hR hS (lv_sub hl [2, 0] rfl)
        · skip
          have hq_10 : n < 24 := by omega
          refine lv_astore_n (lv' := [(2, .ref (G.2.1 (80 + n))), (0, .ref (G.2.1 21)), (1, .int (nI n))]) hC.x hC.b dX1_leastTaken_16 rfl hl (by decide) rfl (fun ls hl => ?_)
          refine lv_aload_n hC.x hC.b dX1_leastTaken_17 rfl (lv_at hl 0 rfl) ?_
          refine lv_ifnull hC.x hC.b dX1_leastTaken_18 ?_
          refine lv_aload_n hC.x hC.b dX1_leastTaken_21 rfl (lv_at hl 0 rfl) ?_
          refine goip (runV (As := []) (rest := []) hC hK hR hl.1 (c_X0_isTaken l hG σ τ n hq_10 ) (call_b hC.ts TC_X0_isTaken TN_X0 TM_X1_79 hd_X0_isTaken ⟨Nat.le_of_ble_eq_true rfl, Nat.le_of_ble_eq_true rfl⟩) TI_X0_isTaken TS_X0_isTaken (ct_clock hq_10 G _ _) rfl rfl rfl (Nat.le_of_ble_eq_true rfl) dX1_leastTaken_22 ⟨Nat.le_of_ble_eq_true rfl, Nat.le_of_ble_eq_true rfl⟩) hS (fun v_11 H locs w_12 hR hS => ?_)
          rcases w_12 with ⟨rfl, f_13, f_14⟩ | ⟨rfl, f_15⟩
          · skip
            refine bz_eq (tgt := 30) (a := 1) (b := 0) hC.x hC.b rfl rfl dX1_leastTaken_25 (by decide) (fun c_16 => absurd c_16 (by decide)) (fun _ => ?_)
            refine lv_aload_n hC.x hC.b dX1_leastTaken_28 rfl (lv_at hl 0 rfl) ?_
            exact reta hC hK hR hS ⟨rfl, (by first | exact Or.inr ((⟨n, hq_10, by first | rfl | omega, by exact ⟨⟨by omega, by omega, by omega, by omega⟩, hi1_2⟩⟩)) | exact False.elim (by omega))⟩ dX1_leastTaken_29
          · skip
            refine bz_eq (tgt := 30) (a := 0) (b := 0) hC.x hC.b rfl rfl dX1_leastTaken_25 (by decide) (fun _ => ?_) (fun c_17 => absurd c_17 (by decide))
            refine lv_iinc (v := nI (n + 1)) (lv' := [(1, .int (nI (n + 1))), (2, .ref (G.2.1 (80 + n))), (0, .ref (G.2.1 21))]) hC.x hC.b dX1_leastTaken_30 hl (k := 2) rfl (nI_succ _).symm (by decide) rfl (fun ls hl => ?_)
            refine lv_goto (tgt := 2) hC.x hC.b dX1_leastTaken_33 (by decide) ?_
            exact ih_2 (n + 1) (by omega) (by first | omega | assumption) (by intro p hp; (rcases Nat.lt_or_eq_of_le (Nat.le_of_lt_succ hp) with e9 | e9); exact hi1_2 p e9; (rw [e9]; rintro ⟨h1, h2, h3, h4⟩; omega)) _ _ _ hR hS (lv_sub hl [2, 0] rfl)
  exact L_2 _ 0 (Nat.lt_succ_self _) (by first | omega | assumption) (by intro p hp; omega) _ _ _ hR hS (lv_sub hl [1, 0] rfl)

abbrev po4_X1_hold (σ : SI) (τ : SL) (rq : Nat) (hr : Int32) : SI × SL → Prop := fun u => ((CF σ u.1) ∧ (HI σ u.1 rq hr 24))
set_option maxRecDepth 100000 in
set_option maxHeartbeats 4000000 in
theorem c4_X1_hold (l : Launch) {G : Gx} {A : Nat → Prop} (hG : GOk G A) (σ : SI) (τ : SL) (rq : Nat) (hrq : rq < 24) (hr : Int32) : MV l G A 4 yX1_hold cX1_hold 6 none [.ref (G.2.1 21), .ref (G.2.1 (80 + rq)), .int hr] (σ, τ) (po4_X1_hold σ τ rq hr) := by
  refine met_of (own := RX1) (by decide +kernel) rfl [(0, .ref (G.2.1 21)), (1, .ref (G.2.1 (80 + rq))), (2, .int hr)] rfl (Nat.le_of_ble_eq_true rfl) ?_
  intro p e s m args below meth c ls hC hK hR hl
  have hS : va_S A s.heap s.heap [] := va_S.rf
  refine lv_aload_n hC.x hC.b dX1_hold_0 rfl (lv_at hl 0 rfl) ?_
  refine rget hC hK hR (ct_closing G _ _) rfl uin_X1 1 (by decide) TF_X1_23 rfl dX1_hold_1 ?_
  refine lv_aload_n hC.x hC.b dX1_hold_4 rfl (lv_at hl 1 rfl) ?_
  refine rget hC hK hR (ct_clock hrq G _ _) rfl uin_X0 0 (by decide) TF_X1_62 rfl dX1_hold_5 ?_
  refine lv_iload_n hC.x hC.b dX1_hold_8 rfl (lv_at hl 2 rfl) ?_
  have av_1 : (nI rq).toInt = ((rq : Nat) : Int) := (nI_T _ (by omega))
  refine gov (runV (As := [.int (nI rq), .int hr]) (rest := []) hC hK hR hl.1 (c3_X8_spread l hG σ τ (nI rq) hr ) (call_b hC.ts TC_X8_spread TN_X8 TM_X1_83 hd_X8_spread ⟨Nat.le_of_ble_eq_true rfl, Nat.le_of_ble_eq_true rfl⟩) TI_X8_spread TS_X8_spread (ct_ways G _ _) rfl rfl rfl (Nat.le_of_ble_eq_true rfl) dX1_hold_9 ⟨Nat.le_of_ble_eq_true rfl, Nat.le_of_ble_eq_true rfl⟩) hS (fun s_4 t_5 H locs w_3 hR hS => ?_)
  try dsimp only [po3_X8_spread] at w_3
  obtain ⟨f_6, f_7⟩ := w_3
  refine lv_iconst (v := 0) hC.x hC.b dX1_hold_12 (by decide) ?_
  refine lv_istore_n (lv' := [(3, .int (0 : Int32)), (0, .ref (G.2.1 21)), (1, .ref (G.2.1 (80 + rq))), (2, .int hr)]) hC.x hC.b dX1_hold_13 rfl hl (by decide) rfl (fun ls hl => ?_)
  have L_14 : ∀ (F : Nat) (n : Nat) (s1 : SI) (t1 : SL), (24 - n) < F → (n ≤ 24) → (HI σ s1 rq hr n) → (CF σ s1) → ∀ (H : Heap) (locs : List Loc) (ls : Array Slot), RepH G s1 t1 H → va_S A s.heap H locs → lv_has ls 6 [(0, .ref (G.2.1 21)), (1, .ref (G.2.1 (80 + rq))), (2, .int hr), (3, .int (nI n))] → W p l e (rmD 4) s m args below meth c H locs 0 0 (MQ below (va_Qv (po4_X1_hold σ τ rq hr) (BU G) A) args s 0 0 A) (F0 m 14 ls []) := by
    intro F
    induction F with
    | zero => intro n s1 t1 hm; exact absurd hm (Nat.not_lt_zero _)
    | succ F ih_14 =>
      intro n s1 t1 hm_14 hi0_14 hi1_14 hi2_14 H locs ls hR hS hl
      have hnI := nI_T n (by omega)
      refine lv_iload_n hC.x hC.b dX1_hold_14 rfl (lv_at hl 3 rfl) ?_
      refine lv_bipush (v := 24) hC.x hC.b dX1_hold_15 (by decide) ?_
      refine bi_ge (tgt := 153) (a := (n : Int)) (b := 24) hC.x hC.b (nI_T n (by omega)) rfl dX1_hold_17 (by decide) (fun c_8 => ?_) (fun c_8 => ?_)
      · skip
        exact retv hC hK hR hS (⟨by exact hi2_14, by (try dsimp only); (have e9 : n = 24 := by omega); exact e9 ▸ hi1_14⟩) dX1_hold_153
      · skip
        refine lv_aload_n hC.x hC.b dX1_hold_20 rfl (lv_at hl 0 rfl) ?_
        refine rget hC hK hR (ct_closing G _ _) rfl uin_X1 5 (by decide) TF_X1_9 rfl dX1_hold_21 ?_
        refine lv_iload_n hC.x hC.b dX1_hold_24 rfl (lv_at hl 3 rfl) ?_
        refine lv_iconst (v := 0) hC.x hC.b dX1_hold_25 (by decide) ?_
        refine ast hC hK hG hR hS (fun _ => ct_fullWeights G _ _) (nI_T n (by omega)) (by omega) (by omega) (Int.toNat_natCast _) dX1_hold_26 (fun s_9 es_10 H locs hR hS => ?_)
        refine lv_aload_n hC.x hC.b dX1_hold_27 rfl (lv_at hl 0 rfl) ?_
        refine rget hC hK hR (ct_closing G _ _) rfl uin_X1 0 (by decide) TF_X1_19 rfl dX1_hold_28 ?_
        refine lv_iload_n hC.x hC.b dX1_hold_31 rfl (lv_at hl 3 rfl) ?_
        have av_11 : (nI n).toInt = (n : Int) := (nI_T n (by omega))
        refine goqp (runV (As := [.int (nI n)]) (rest := []) hC hK hR hl.1 (c_X5_clockAt l hG s_9 t1 (nI n) n (by first | rfl | (rw [show (nI n).toInt = (n : Int) from (nI_T n (by omega))]; done) | (rw [show (nI n).toInt = (n : Int) from (nI_T n (by omega))]; exact (Int.toNat_natCast _))) ) (call_b hC.ts TC_X5_clockAt TN_X5 TM_X1_73 hd_X5_clockAt ⟨Nat.le_of_ble_eq_true rfl, Nat.le_of_ble_eq_true rfl⟩) TI_X5_clockAt TS_X5_clockAt (ct_shelf G _ _) rfl rfl rfl (Nat.le_of_ble_eq_true rfl) dX1_hold_32 ⟨Nat.le_of_ble_eq_true rfl, Nat.le_of_ble_eq_true rfl⟩) hS (fun v_12 H locs w_13 hR hS => ?_)
        rcases w_13 with ⟨rfl, f_14⟩ | ⟨rfl, f_15, f_16, f_17, f_18⟩
        · skip
          refine lv_astoreN (lv' := [(4, .null), (0, .ref (G.2.1 21)), (1, .ref (G.2.1 (80 + rq))), (2, .int hr), (3, .int (nI n))]) hC.x hC.b dX1_hold_35 hl (by decide) rfl (fun ls hl => ?_)
          refine lv_aloadN hC.x hC.b dX1_hold_37 (lv_at hl 0 rfl) ?_
          refine lv_ifnullN (tgt := 147) hC.x hC.b dX1_hold_39 (by decide) ?_
          refine lv_iinc (v := nI (n + 1)) (lv' := [(3, .int (nI (n + 1))), (4, .null), (0, .ref (G.2.1 21)), (1, .ref (G.2.1 (80 + rq))), (2, .int hr)]) hC.x hC.b dX1_hold_147 hl (k := 4) rfl (nI_succ _).symm (by decide) rfl (fun ls hl => ?_)
          refine lv_goto (tgt := 14) hC.x hC.b dX1_hold_150 (by decide) ?_
          exact ih_14 (n + 1) s_9 t1 (by omega) (by first | omega | assumption) (by exact HI.sk hi1_14 (by rw [es_10]; exact CF.up (hi2_14) (by omega)) (by omega) (fun k9 h9 h9b => (show s_9 k9 = s1 k9 from (by rw [es_10]; exact up2_ne (by omega)))) (show s_9 21 6 = s1 21 6 from (by rw [es_10]; exact up2_o (by omega))) (by first | exact Or.inl (by rintro ⟨h1, h2, h3, h4⟩; omega) | exact Or.inr (by omega) | exact Or.inr (by rw [show s_9 14 n = _ from rfl]; assumption))) (by rw [es_10]; exact CF.up (hi2_14) (by omega)) _ _ _ hR hS (lv_sub hl [2, 3, 4, 0] rfl)
        · skip
          have hq_19 : n < 24 := by omega
          refine lv_astore (lv' := [(4, .ref (G.2.1 (80 + n))), (0, .ref (G.2.1 21)), (1, .ref (G.2.1 (80 + rq))), (2, .int hr), (3, .int (nI n))]) hC.x hC.b dX1_hold_35 hl (by decide) rfl (fun ls hl => ?_)
          refine lv_aload hC.x hC.b dX1_hold_37 (lv_at hl 0 rfl) ?_
          refine lv_ifnull hC.x hC.b dX1_hold_39 ?_
          refine lv_aload hC.x hC.b dX1_hold_42 (lv_at hl 0 rfl) ?_
          refine goip (runV (As := []) (rest := []) hC hK hR hl.1 (c_X0_isTaken l hG s_9 t1 n hq_19 ) (call_b hC.ts TC_X0_isTaken TN_X0 TM_X1_79 hd_X0_isTaken ⟨Nat.le_of_ble_eq_true rfl, Nat.le_of_ble_eq_true rfl⟩) TI_X0_isTaken TS_X0_isTaken (ct_clock hq_19 G _ _) rfl rfl rfl (Nat.le_of_ble_eq_true rfl) dX1_hold_44 ⟨Nat.le_of_ble_eq_true rfl, Nat.le_of_ble_eq_true rfl⟩) hS (fun v_20 H locs w_21 hR hS => ?_)
          rcases w_21 with ⟨rfl, f_22, f_23⟩ | ⟨rfl, f_24⟩
          · skip
            refine bz_eq (tgt := 147) (a := 1) (b := 0) hC.x hC.b rfl rfl dX1_hold_47 (by decide) (fun c_25 => absurd c_25 (by decide)) (fun _ => ?_)
            have htk : TkC σ n := tk_cf (s := s_9) (by rw [es_10]; exact CF.up (hi2_14) (by omega)) (by omega) ⟨by omega, by omega, by omega, by omega⟩
            refine lv_aload_n hC.x hC.b dX1_hold_50 rfl (lv_at hl 1 rfl) ?_
            refine rget hC hK hR (ct_closing G _ _) rfl uin_X1 1 (by decide) TF_X1_23 rfl dX1_hold_51 ?_
            refine lv_iload_n hC.x hC.b dX1_hold_54 rfl (lv_at hl 4 rfl) ?_
            have av_26 : (nI n).toInt = (n : Int) := (nI_T n (by omega))
            refine goip (runV (As := [.int (nI n)]) (rest := []) hC hK hR hl.1 (c_X8_lengthTo l hG s_9 t1 (nI n) n (by first | rfl | (rw [show (nI n).toInt = (n : Int) from (nI_T n (by omega))]; done) | (rw [show (nI n).toInt = (n : Int) from (nI_T n (by omega))]; exact (Int.toNat_natCast _))) ) (call_b hC.ts TC_X8_lengthTo TN_X8 TM_X1_88 hd_X8_lengthTo ⟨Nat.le_of_ble_eq_true rfl, Nat.le_of_ble_eq_true rfl⟩) TI_X8_lengthTo TS_X8_lengthTo (ct_ways G _ _) rfl rfl rfl (Nat.le_of_ble_eq_true rfl) dX1_hold_55 ⟨Nat.le_of_ble_eq_true rfl, Nat.le_of_ble_eq_true rfl⟩) hS (fun v_27 H locs w_28 hR hS => ?_)
            rcases w_28 with ⟨rfl, f_29, f_30⟩ | ⟨rfl, f_31⟩
            · skip
              refine lv_iconst (v := (-1)) hC.x hC.b dX1_hold_58 (by decide) ?_
              refine bi_ne (tgt := 65) (a := (s_9 14 n).toInt) (b := (-1)) hC.x hC.b rfl rfl dX1_hold_59 (by decide) (fun c_32 => ?_) (fun c_32 => ?_)
              · skip
                have h14 : (s_9 14 n).toInt ≠ -1 := by omega
                refine lv_aload_n hC.x hC.b dX1_hold_65 rfl (lv_at hl 1 rfl) ?_
                refine rget hC hK hR (ct_closing G _ _) rfl uin_X1 3 (by decide) TF_X1_31 rfl dX1_hold_66 ?_
                refine lv_aload hC.x hC.b dX1_hold_69 (lv_at hl 0 rfl) ?_
                refine lv_iload_n hC.x hC.b dX1_hold_71 rfl (lv_at hl 3 rfl) ?_
                refine goi (runV (As := [.ref (G.2.1 (80 + n)), .int hr]) (rest := []) hC hK hR hl.1 (c_X2_foretoldOf l hG s_9 t1 n hq_19 hr ) (call_b hC.ts TC_X2_foretoldOf TN_X2 TM_X1_92 hd_X2_foretoldOf ⟨Nat.le_of_ble_eq_true rfl, Nat.le_of_ble_eq_true rfl⟩) TI_X2_foretoldOf TS_X2_foretoldOf (ct_fore G _ _) rfl rfl rfl (Nat.le_of_ble_eq_true rfl) dX1_hold_72 ⟨Nat.le_of_ble_eq_true rfl, Nat.le_of_ble_eq_true rfl⟩) hS (fun v_33 s_35 t_36 H locs w_34 hR hS => ?_)
                try dsimp only [po_X2_foretoldOf] at w_34
                have f_37 := w_34
                refine lv_istore (lv' := [(5, .int v_33), (4, .ref (G.2.1 (80 + n))), (0, .ref (G.2.1 21)), (1, .ref (G.2.1 (80 + rq))), (2, .int hr), (3, .int (nI n))]) hC.x hC.b dX1_hold_75 hl (by decide) rfl (fun ls hl => ?_)
                refine lv_aload_n hC.x hC.b dX1_hold_77 rfl (lv_at hl 2 rfl) ?_
                refine rget hC hK hR (ct_closing G _ _) rfl uin_X1 2 (by decide) TF_X1_27 rfl dX1_hold_78 ?_
                refine lv_iconst (v := 1) hC.x hC.b dX1_hold_81 (by decide) ?_
                refine lv_iload_n hC.x hC.b dX1_hold_82 rfl (lv_at hl 4 rfl) ?_
                refine lv_iload_n hC.x hC.b dX1_hold_83 rfl (lv_at hl 5 rfl) ?_
                refine lv_iload hC.x hC.b dX1_hold_84 (lv_at hl 0 rfl) ?_
                have av_38 : (1 : Int32).toInt = 1 := by decide
                have av_39 : (nI n).toInt = (n : Int) := (nI_T n (by omega))
                refine gov (runV (As := [.int (1 : Int32), .int hr, .int (nI n), .int v_33]) (rest := []) hC hK hR hl.1 (c4_X7_tell l hG s_35 t_36 (1 : Int32) hr (nI n) v_33 ) (call_b hC.ts TC_X7_tell TN_X7 TM_X1_98 hd_X7_tell ⟨Nat.le_of_ble_eq_true rfl, Nat.le_of_ble_eq_true rfl⟩) TI_X7_tell TS_X7_tell (ct_told G _ _) rfl rfl rfl (Nat.le_of_ble_eq_true rfl) dX1_hold_86 ⟨Nat.le_of_ble_eq_true rfl, Nat.le_of_ble_eq_true rfl⟩) hS (fun s_42 t_43 H locs w_41 hR hS => ?_)
                try dsimp only [po4_X7_tell] at w_41
                have f_44 := w_41
                refine lv_aload_n hC.x hC.b dX1_hold_89 rfl (lv_at hl 2 rfl) ?_
                refine rget hC hK hR (ct_closing G _ _) rfl uin_X1 2 (by decide) TF_X1_27 rfl dX1_hold_90 ?_
                refine lv_iconst (v := 4) hC.x hC.b dX1_hold_93 (by decide) ?_
                refine lv_iload_n hC.x hC.b dX1_hold_94 rfl (lv_at hl 4 rfl) ?_
                refine lv_iload_n hC.x hC.b dX1_hold_95 rfl (lv_at hl 5 rfl) ?_
                refine lv_aload_n hC.x hC.b dX1_hold_96 rfl (lv_at hl 2 rfl) ?_
                refine rget hC hK hR (ct_closing G _ _) rfl uin_X1 1 (by decide) TF_X1_23 rfl dX1_hold_97 ?_
                refine lv_iload_n hC.x hC.b dX1_hold_100 rfl (lv_at hl 5 rfl) ?_
                have av_45 : (nI n).toInt = (n : Int) := (nI_T n (by omega))
                refine goip (runV (As := [.int (nI n)]) (rest := [.int (nI n), .int hr, .int (4 : Int32), .ref (G.2.1 5)]) hC hK hR hl.1 (c3_X8_sumTo l hG s_42 t_43 (nI n) n (by first | rfl | (rw [show (nI n).toInt = (n : Int) from (nI_T n (by omega))]; done) | (rw [show (nI n).toInt = (n : Int) from (nI_T n (by omega))]; exact (Int.toNat_natCast _))) ) (call_b hC.ts TC_X8_sumTo TN_X8 TM_X1_102 hd_X8_sumTo ⟨Nat.le_of_ble_eq_true rfl, Nat.le_of_ble_eq_true rfl⟩) TI_X8_sumTo TS_X8_sumTo (ct_ways G _ _) rfl rfl rfl (Nat.le_of_ble_eq_true rfl) dX1_hold_101 ⟨Nat.le_of_ble_eq_true rfl, Nat.le_of_ble_eq_true rfl⟩) hS (fun v_46 H locs w_47 hR hS => ?_)
                rcases w_47 with ⟨rfl, f_48, f_49⟩ | ⟨rfl, f_50⟩
                · skip
                  refine lv_ineg hC.x hC.b dX1_hold_104 ?_
                  refine lv_aload hC.x hC.b dX1_hold_105 (lv_at hl 1 rfl) ?_
                  refine rget hC hK hR (ct_clock hq_19 G _ _) rfl uin_X0 4 (by decide) TF_X1_105 rfl dX1_hold_107 ?_
                  rw [show s_42 (80 + n) 4 = (σ (80 + n) 4) from (Eq.trans (show s_42 (80 + n) 4 = s_35 (80 + n) 4 from f_44.2 n 4 hq_19 (by omega)) (Eq.trans (show s_35 (80 + n) 4 = s_9 (80 + n) 4 from congrFun (f_37 (80 + n) (by first | omega | (dsimp only; omega))) 4) (Eq.trans (show s_9 (80 + n) 4 = s1 (80 + n) 4 from (by rw [es_10]; exact up2_o (by omega))) (show s1 (80 + n) 4 = σ (80 + n) 4 from hi2_14.2 n 4 hq_19 (by omega)))))]
                  refine lv_isub hC.x hC.b dX1_hold_110 ?_
                  refine lv_aload_n hC.x hC.b dX1_hold_111 rfl (lv_at hl 3 rfl) ?_
                  refine rget hC hK hR (ct_clock hrq G _ _) rfl uin_X0 4 (by decide) TF_X1_105 rfl dX1_hold_112 ?_
                  rw [show s_42 (80 + rq) 4 = (σ (80 + rq) 4) from (Eq.trans (show s_42 (80 + rq) 4 = s_35 (80 + rq) 4 from f_44.2 rq 4 hrq (by omega)) (Eq.trans (show s_35 (80 + rq) 4 = s_9 (80 + rq) 4 from congrFun (f_37 (80 + rq) (by first | omega | (dsimp only; omega))) 4) (Eq.trans (show s_9 (80 + rq) 4 = s1 (80 + rq) 4 from (by rw [es_10]; exact up2_o (by omega))) (show s1 (80 + rq) 4 = σ (80 + rq) 4 from hi2_14.2 rq 4 hrq (by omega)))))]
                  refine lv_iadd hC.x hC.b dX1_hold_115 ?_
                  have av_51 : (4 : Int32).toInt = 4 := by decide
                  have av_52 : (nI n).toInt = (n : Int) := (nI_T n (by omega))
                  refine gov (runV (As := [.int (4 : Int32), .int hr, .int (nI n), .int (((-(s_42 15 n)) - (σ (80 + n) 4)) + (σ (80 + rq) 4))]) (rest := []) hC hK hR hl.1 (c4_X7_tell l hG s_42 t_43 (4 : Int32) hr (nI n) (((-(s_42 15 n)) - (σ (80 + n) 4)) + (σ (80 + rq) 4)) ) (call_b hC.ts TC_X7_tell TN_X7 TM_X1_98 hd_X7_tell ⟨Nat.le_of_ble_eq_true rfl, Nat.le_of_ble_eq_true rfl⟩) TI_X7_tell TS_X7_tell (ct_told G _ _) rfl rfl rfl (Nat.le_of_ble_eq_true rfl) dX1_hold_116 ⟨Nat.le_of_ble_eq_true rfl, Nat.le_of_ble_eq_true rfl⟩) hS (fun s_55 t_56 H locs w_54 hR hS => ?_)
                  try dsimp only [po4_X7_tell] at w_54
                  have f_57 := w_54
                  refine lv_aload_n hC.x hC.b dX1_hold_119 rfl (lv_at hl 2 rfl) ?_
                  refine rget hC hK hR (ct_closing G _ _) rfl uin_X1 5 (by decide) TF_X1_9 rfl dX1_hold_120 ?_
                  refine lv_iload_n hC.x hC.b dX1_hold_123 rfl (lv_at hl 5 rfl) ?_
                  refine lv_aload_n hC.x hC.b dX1_hold_124 rfl (lv_at hl 2 rfl) ?_
                  refine rget hC hK hR (ct_closing G _ _) rfl uin_X1 3 (by decide) TF_X1_31 rfl dX1_hold_125 ?_
                  refine lv_aload hC.x hC.b dX1_hold_128 (lv_at hl 1 rfl) ?_
                  refine lv_iload_n hC.x hC.b dX1_hold_130 rfl (lv_at hl 4 rfl) ?_
                  refine lv_iload hC.x hC.b dX1_hold_131 (lv_at hl 0 rfl) ?_
                  refine goi (runV (As := [.ref (G.2.1 (80 + n)), .int hr, .int v_33]) (rest := [.int (nI n), .ref (G.2.1 22)]) hC hK hR hl.1 (c_X2_fullWeightOf l hG s_55 t_56 n hq_19 hr v_33 ) (call_b hC.ts TC_X2_fullWeightOf TN_X2 TM_X1_108 hd_X2_fullWeightOf ⟨Nat.le_of_ble_eq_true rfl, Nat.le_of_ble_eq_true rfl⟩) TI_X2_fullWeightOf TS_X2_fullWeightOf (ct_fore G _ _) rfl rfl rfl (Nat.le_of_ble_eq_true rfl) dX1_hold_133 ⟨Nat.le_of_ble_eq_true rfl, Nat.le_of_ble_eq_true rfl⟩) hS (fun v_58 s_60 t_61 H locs w_59 hR hS => ?_)
                  try dsimp only [po_X2_fullWeightOf] at w_59
                  have f_62 := w_59
                  refine ast hC hK hG hR hS (fun _ => ct_fullWeights G _ _) (nI_T n (by omega)) (by omega) (by omega) (Int.toNat_natCast _) dX1_hold_136 (fun s_63 es_64 H locs hR hS => ?_)
                  refine lv_aload_n hC.x hC.b dX1_hold_137 rfl (lv_at hl 2 rfl) ?_
                  refine lv_dup hC.x hC.b dX1_hold_138 rfl ?_
                  refine rget hC hK hR (ct_closing G _ _) rfl uin_X1 6 (by decide) TF_X1_15 rfl dX1_hold_139 ?_
                  rw [show s_63 21 6 = (s1 21 6) from (Eq.trans (show s_63 21 6 = s_60 21 6 from (by rw [es_64]; exact up2_o (by omega))) (Eq.trans (show s_60 21 6 = s_55 21 6 from congrFun (f_62 21 (by first | omega | (dsimp only; omega))) 6) (Eq.trans (show s_55 21 6 = s_42 21 6 from congrFun (f_57.1 21 (by first | omega | (dsimp only; omega))) 6) (Eq.trans (show s_42 21 6 = s_35 21 6 from congrFun (f_44.1 21 (by first | omega | (dsimp only; omega))) 6) (Eq.trans (show s_35 21 6 = s_9 21 6 from congrFun (f_37 21 (by first | omega | (dsimp only; omega))) 6) (show s_9 21 6 = s1 21 6 from (by rw [es_10]; exact up2_o (by omega))))))))]
                  refine lv_iconst (v := 1) hC.x hC.b dX1_hold_142 (by decide) ?_
                  refine lv_iadd hC.x hC.b dX1_hold_143 ?_
                  refine rputi hC hK hG hR hS (ct_closing G _ _) rfl uin_X1 tyX1 tyX1_ok nmX1 6 (by decide) TF_X1_15 rfl (Or.inl rfl) (Nat.le_of_ble_eq_true rfl) rfl (ct_closing G _ _) dX1_hold_144 (fun s_66 es_65 H locs hR hS => ?_)
                  refine lv_iinc (v := nI (n + 1)) (lv' := [(3, .int (nI (n + 1))), (5, .int v_33), (4, .ref (G.2.1 (80 + n))), (0, .ref (G.2.1 21)), (1, .ref (G.2.1 (80 + rq))), (2, .int hr)]) hC.x hC.b dX1_hold_147 hl (k := 5) rfl (nI_succ _).symm (by decide) rfl (fun ls hl => ?_)
                  refine lv_goto (tgt := 14) hC.x hC.b dX1_hold_150 (by decide) ?_
                  exact ih_14 (n + 1) s_66 t_61 (by omega) (by first | omega | assumption) (by exact HI.ad hi1_14 (fun k9 h9 h9b => (Eq.trans (show s_66 k9 = s_63 k9 from (by rw [es_65]; exact up2_ne (by omega))) (Eq.trans (show s_63 k9 = s_60 k9 from (by rw [es_64]; exact up2_ne (by omega))) (Eq.trans (show s_60 k9 = s_55 k9 from f_62 k9 (by first | omega | (dsimp only; omega))) (Eq.trans (show s_55 k9 = s_42 k9 from f_57.1 k9 (by first | omega | (dsimp only; omega))) (Eq.trans (show s_42 k9 = s_35 k9 from f_44.1 k9 (by first | omega | (dsimp only; omega))) (Eq.trans (show s_35 k9 = s_9 k9 from f_37 k9 (by first | omega | (dsimp only; omega))) (show s_9 k9 = s1 k9 from (by rw [es_10]; exact up2_ne (by omega)))))))))) (by rw [es_65]; exact up2_s) htk (by rw [← (show s_9 14 = s1 14 from (show s_9 14 = s1 14 from (by rw [es_10]; exact up2_ne (by omega))))]; assumption)) (by rw [es_65]; exact CF.up ((by rw [es_64]; exact CF.up ((CF.tr (CF.tr (CF.tr (CF.tr (by rw [es_10]; exact CF.up (hi2_14) (by omega)) (CF.fore f_37)) (CG.cf f_44)) (CG.cf f_57)) (CF.fore f_62))) (by omega))) (by omega)) _ _ _ hR hS (lv_sub hl [3, 4, 5, 0] rfl)
                · skip
                  refine lv_ineg hC.x hC.b dX1_hold_104 ?_
                  refine lv_aload hC.x hC.b dX1_hold_105 (lv_at hl 1 rfl) ?_
                  refine rget hC hK hR (ct_clock hq_19 G _ _) rfl uin_X0 4 (by decide) TF_X1_105 rfl dX1_hold_107 ?_
                  rw [show s_42 (80 + n) 4 = (σ (80 + n) 4) from (Eq.trans (show s_42 (80 + n) 4 = s_35 (80 + n) 4 from f_44.2 n 4 hq_19 (by omega)) (Eq.trans (show s_35 (80 + n) 4 = s_9 (80 + n) 4 from congrFun (f_37 (80 + n) (by first | omega | (dsimp only; omega))) 4) (Eq.trans (show s_9 (80 + n) 4 = s1 (80 + n) 4 from (by rw [es_10]; exact up2_o (by omega))) (show s1 (80 + n) 4 = σ (80 + n) 4 from hi2_14.2 n 4 hq_19 (by omega)))))]
                  refine lv_isub hC.x hC.b dX1_hold_110 ?_
                  refine lv_aload_n hC.x hC.b dX1_hold_111 rfl (lv_at hl 3 rfl) ?_
                  refine rget hC hK hR (ct_clock hrq G _ _) rfl uin_X0 4 (by decide) TF_X1_105 rfl dX1_hold_112 ?_
                  rw [show s_42 (80 + rq) 4 = (σ (80 + rq) 4) from (Eq.trans (show s_42 (80 + rq) 4 = s_35 (80 + rq) 4 from f_44.2 rq 4 hrq (by omega)) (Eq.trans (show s_35 (80 + rq) 4 = s_9 (80 + rq) 4 from congrFun (f_37 (80 + rq) (by first | omega | (dsimp only; omega))) 4) (Eq.trans (show s_9 (80 + rq) 4 = s1 (80 + rq) 4 from (by rw [es_10]; exact up2_o (by omega))) (show s1 (80 + rq) 4 = σ (80 + rq) 4 from hi2_14.2 rq 4 hrq (by omega)))))]
                  refine lv_iadd hC.x hC.b dX1_hold_115 ?_
                  have av_67 : (4 : Int32).toInt = 4 := by decide
                  have av_68 : (nI n).toInt = (n : Int) := (nI_T n (by omega))
                  refine gov (runV (As := [.int (4 : Int32), .int hr, .int (nI n), .int (((-(0 : Int32)) - (σ (80 + n) 4)) + (σ (80 + rq) 4))]) (rest := []) hC hK hR hl.1 (c4_X7_tell l hG s_42 t_43 (4 : Int32) hr (nI n) (((-(0 : Int32)) - (σ (80 + n) 4)) + (σ (80 + rq) 4)) ) (call_b hC.ts TC_X7_tell TN_X7 TM_X1_98 hd_X7_tell ⟨Nat.le_of_ble_eq_true rfl, Nat.le_of_ble_eq_true rfl⟩) TI_X7_tell TS_X7_tell (ct_told G _ _) rfl rfl rfl (Nat.le_of_ble_eq_true rfl) dX1_hold_116 ⟨Nat.le_of_ble_eq_true rfl, Nat.le_of_ble_eq_true rfl⟩) hS (fun s_71 t_72 H locs w_70 hR hS => ?_)
                  try dsimp only [po4_X7_tell] at w_70
                  have f_73 := w_70
                  refine lv_aload_n hC.x hC.b dX1_hold_119 rfl (lv_at hl 2 rfl) ?_
                  refine rget hC hK hR (ct_closing G _ _) rfl uin_X1 5 (by decide) TF_X1_9 rfl dX1_hold_120 ?_
                  refine lv_iload_n hC.x hC.b dX1_hold_123 rfl (lv_at hl 5 rfl) ?_
                  refine lv_aload_n hC.x hC.b dX1_hold_124 rfl (lv_at hl 2 rfl) ?_
                  refine rget hC hK hR (ct_closing G _ _) rfl uin_X1 3 (by decide) TF_X1_31 rfl dX1_hold_125 ?_
                  refine lv_aload hC.x hC.b dX1_hold_128 (lv_at hl 1 rfl) ?_
                  refine lv_iload_n hC.x hC.b dX1_hold_130 rfl (lv_at hl 4 rfl) ?_
                  refine lv_iload hC.x hC.b dX1_hold_131 (lv_at hl 0 rfl) ?_
                  refine goi (runV (As := [.ref (G.2.1 (80 + n)), .int hr, .int v_33]) (rest := [.int (nI n), .ref (G.2.1 22)]) hC hK hR hl.1 (c_X2_fullWeightOf l hG s_71 t_72 n hq_19 hr v_33 ) (call_b hC.ts TC_X2_fullWeightOf TN_X2 TM_X1_108 hd_X2_fullWeightOf ⟨Nat.le_of_ble_eq_true rfl, Nat.le_of_ble_eq_true rfl⟩) TI_X2_fullWeightOf TS_X2_fullWeightOf (ct_fore G _ _) rfl rfl rfl (Nat.le_of_ble_eq_true rfl) dX1_hold_133 ⟨Nat.le_of_ble_eq_true rfl, Nat.le_of_ble_eq_true rfl⟩) hS (fun v_74 s_76 t_77 H locs w_75 hR hS => ?_)
                  try dsimp only [po_X2_fullWeightOf] at w_75
                  have f_78 := w_75
                  refine ast hC hK hG hR hS (fun _ => ct_fullWeights G _ _) (nI_T n (by omega)) (by omega) (by omega) (Int.toNat_natCast _) dX1_hold_136 (fun s_79 es_80 H locs hR hS => ?_)
                  refine lv_aload_n hC.x hC.b dX1_hold_137 rfl (lv_at hl 2 rfl) ?_
                  refine lv_dup hC.x hC.b dX1_hold_138 rfl ?_
                  refine rget hC hK hR (ct_closing G _ _) rfl uin_X1 6 (by decide) TF_X1_15 rfl dX1_hold_139 ?_
                  rw [show s_79 21 6 = (s1 21 6) from (Eq.trans (show s_79 21 6 = s_76 21 6 from (by rw [es_80]; exact up2_o (by omega))) (Eq.trans (show s_76 21 6 = s_71 21 6 from congrFun (f_78 21 (by first | omega | (dsimp only; omega))) 6) (Eq.trans (show s_71 21 6 = s_42 21 6 from congrFun (f_73.1 21 (by first | omega | (dsimp only; omega))) 6) (Eq.trans (show s_42 21 6 = s_35 21 6 from congrFun (f_44.1 21 (by first | omega | (dsimp only; omega))) 6) (Eq.trans (show s_35 21 6 = s_9 21 6 from congrFun (f_37 21 (by first | omega | (dsimp only; omega))) 6) (show s_9 21 6 = s1 21 6 from (by rw [es_10]; exact up2_o (by omega))))))))]
                  refine lv_iconst (v := 1) hC.x hC.b dX1_hold_142 (by decide) ?_
                  refine lv_iadd hC.x hC.b dX1_hold_143 ?_
                  refine rputi hC hK hG hR hS (ct_closing G _ _) rfl uin_X1 tyX1 tyX1_ok nmX1 6 (by decide) TF_X1_15 rfl (Or.inl rfl) (Nat.le_of_ble_eq_true rfl) rfl (ct_closing G _ _) dX1_hold_144 (fun s_82 es_81 H locs hR hS => ?_)
                  refine lv_iinc (v := nI (n + 1)) (lv' := [(3, .int (nI (n + 1))), (5, .int v_33), (4, .ref (G.2.1 (80 + n))), (0, .ref (G.2.1 21)), (1, .ref (G.2.1 (80 + rq))), (2, .int hr)]) hC.x hC.b dX1_hold_147 hl (k := 5) rfl (nI_succ _).symm (by decide) rfl (fun ls hl => ?_)
                  refine lv_goto (tgt := 14) hC.x hC.b dX1_hold_150 (by decide) ?_
                  exact ih_14 (n + 1) s_82 t_77 (by omega) (by first | omega | assumption) (by exact HI.ad hi1_14 (fun k9 h9 h9b => (Eq.trans (show s_82 k9 = s_79 k9 from (by rw [es_81]; exact up2_ne (by omega))) (Eq.trans (show s_79 k9 = s_76 k9 from (by rw [es_80]; exact up2_ne (by omega))) (Eq.trans (show s_76 k9 = s_71 k9 from f_78 k9 (by first | omega | (dsimp only; omega))) (Eq.trans (show s_71 k9 = s_42 k9 from f_73.1 k9 (by first | omega | (dsimp only; omega))) (Eq.trans (show s_42 k9 = s_35 k9 from f_44.1 k9 (by first | omega | (dsimp only; omega))) (Eq.trans (show s_35 k9 = s_9 k9 from f_37 k9 (by first | omega | (dsimp only; omega))) (show s_9 k9 = s1 k9 from (by rw [es_10]; exact up2_ne (by omega)))))))))) (by rw [es_81]; exact up2_s) htk (by rw [← (show s_9 14 = s1 14 from (show s_9 14 = s1 14 from (by rw [es_10]; exact up2_ne (by omega))))]; assumption)) (by rw [es_81]; exact CF.up ((by rw [es_80]; exact CF.up ((CF.tr (CF.tr (CF.tr (CF.tr (by rw [es_10]; exact CF.up (hi2_14) (by omega)) (CF.fore f_37)) (CG.cf f_44)) (CG.cf f_73)) (CF.fore f_78))) (by omega))) (by omega)) _ _ _ hR hS (lv_sub hl [3, 4, 5, 0] rfl)
              · skip
                refine lv_goto (tgt := 147) hC.x hC.b dX1_hold_62 (by decide) ?_
                refine lv_iinc (v := nI (n + 1)) (lv' := [(3, .int (nI (n + 1))), (4, .ref (G.2.1 (80 + n))), (0, .ref (G.2.1 21)), (1, .ref (G.2.1 (80 + rq))), (2, .int hr)]) hC.x hC.b dX1_hold_147 hl (k := 4) rfl (nI_succ _).symm (by decide) rfl (fun ls hl => ?_)
                refine lv_goto (tgt := 14) hC.x hC.b dX1_hold_150 (by decide) ?_
                exact ih_14 (n + 1) s_9 t1 (by omega) (by first | omega | assumption) (by exact HI.sk hi1_14 (by rw [es_10]; exact CF.up (hi2_14) (by omega)) (by omega) (fun k9 h9 h9b => (show s_9 k9 = s1 k9 from (by rw [es_10]; exact up2_ne (by omega)))) (show s_9 21 6 = s1 21 6 from (by rw [es_10]; exact up2_o (by omega))) (by first | exact Or.inl (by rintro ⟨h1, h2, h3, h4⟩; omega) | exact Or.inr (by omega) | exact Or.inr (by rw [show s_9 14 n = _ from rfl]; assumption))) (by rw [es_10]; exact CF.up (hi2_14) (by omega)) _ _ _ hR hS (lv_sub hl [2, 3, 4, 0] rfl)
            · skip
              refine lv_iconst (v := (-1)) hC.x hC.b dX1_hold_58 (by decide) ?_
              refine bi_ne (tgt := 65) (a := (-1)) (b := (-1)) hC.x hC.b rfl rfl dX1_hold_59 (by decide) (fun c_83 => absurd c_83 (by decide)) (fun _ => ?_)
              refine lv_goto (tgt := 147) hC.x hC.b dX1_hold_62 (by decide) ?_
              refine lv_iinc (v := nI (n + 1)) (lv' := [(3, .int (nI (n + 1))), (4, .ref (G.2.1 (80 + n))), (0, .ref (G.2.1 21)), (1, .ref (G.2.1 (80 + rq))), (2, .int hr)]) hC.x hC.b dX1_hold_147 hl (k := 4) rfl (nI_succ _).symm (by decide) rfl (fun ls hl => ?_)
              refine lv_goto (tgt := 14) hC.x hC.b dX1_hold_150 (by decide) ?_
              exact ih_14 (n + 1) s_9 t1 (by omega) (by first | omega | assumption) (by exact HI.sk hi1_14 (by rw [es_10]; exact CF.up (hi2_14) (by omega)) (by omega) (fun k9 h9 h9b => (show s_9 k9 = s1 k9 from (by rw [es_10]; exact up2_ne (by omega)))) (show s_9 21 6 = s1 21 6 from (by rw [es_10]; exact up2_o (by omega))) (by first | exact Or.inl (by rintro ⟨h1, h2, h3, h4⟩; omega) | exact Or.inr (by omega) | exact Or.inr (by rw [show s_9 14 n = _ from rfl]; assumption))) (by rw [es_10]; exact CF.up (hi2_14) (by omega)) _ _ _ hR hS (lv_sub hl [2, 3, 4, 0] rfl)
          · skip
            refine bz_eq (tgt := 147) (a := 0) (b := 0) hC.x hC.b rfl rfl dX1_hold_47 (by decide) (fun _ => ?_) (fun c_84 => absurd c_84 (by decide))
            refine lv_iinc (v := nI (n + 1)) (lv' := [(3, .int (nI (n + 1))), (4, .ref (G.2.1 (80 + n))), (0, .ref (G.2.1 21)), (1, .ref (G.2.1 (80 + rq))), (2, .int hr)]) hC.x hC.b dX1_hold_147 hl (k := 4) rfl (nI_succ _).symm (by decide) rfl (fun ls hl => ?_)
            refine lv_goto (tgt := 14) hC.x hC.b dX1_hold_150 (by decide) ?_
            exact ih_14 (n + 1) s_9 t1 (by omega) (by first | omega | assumption) (by exact HI.sk hi1_14 (by rw [es_10]; exact CF.up (hi2_14) (by omega)) (by omega) (fun k9 h9 h9b => (show s_9 k9 = s1 k9 from (by rw [es_10]; exact up2_ne (by omega)))) (show s_9 21 6 = s1 21 6 from (by rw [es_10]; exact up2_o (by omega))) (by first | exact Or.inl (by rintro ⟨h1, h2, h3, h4⟩; omega) | exact Or.inr (by omega) | exact Or.inr (by rw [show s_9 14 n = _ from rfl]; assumption))) (by rw [es_10]; exact CF.up (hi2_14) (by omega)) _ _ _ hR hS (lv_sub hl [2, 3, 4, 0] rfl)
  exact L_14 _ 0 s_4 t_5 (Nat.lt_succ_self _) (by first | omega | assumption) (by exact HI.st (by assumption) hrq (by assumption)) (CF.tr CF.rf (CF.ways f_6)) _ _ _ hR hS (lv_sub hl [1, 2, 3, 0] rfl)

abbrev po4_X1_closeHour (σ : SI) (τ : SL) (hr : Int32) (pa : Int32) (ti : Int32) : Int32 → SI × SL → Prop := fun v u => ((CF σ u.1) ∧ (CHV σ hr v))
set_option maxRecDepth 100000 in
set_option maxHeartbeats 4000000 in
theorem c4_X1_closeHour (l : Launch) {G : Gx} {A : Nat → Prop} (hG : GOk G A) (σ : SI) (τ : SL) (hr : Int32) (pa : Int32) (ti : Int32) (hhr : 0 ≤ hr.toInt ∧ hr.toInt ≤ 200) : MI l G A 5 yX1_closeHour cX1_closeHour 5 (some .int) [.ref (G.2.1 21), .int hr, .int pa, .int ti] (σ, τ) (po4_X1_closeHour σ τ hr pa ti) := by
  refine met_of (own := RX1) (by decide +kernel) rfl [(0, .ref (G.2.1 21)), (1, .int hr), (2, .int pa), (3, .int ti)] rfl (Nat.le_of_ble_eq_true rfl) ?_
  intro p e s m args below meth c ls hC hK hR hl
  have hS : va_S A s.heap s.heap [] := va_S.rf
  refine lv_aload_n hC.x hC.b dX1_closeHour_0 rfl (lv_at hl 0 rfl) ?_
  refine lv_iconst (v := 0) hC.x hC.b dX1_closeHour_1 (by decide) ?_
  refine rputi hC hK hG hR hS (ct_closing G _ _) rfl uin_X1 tyX1 tyX1_ok nmX1 6 (by decide) TF_X1_15 rfl (Or.inl rfl) (Nat.le_of_ble_eq_true rfl) rfl (ct_closing G _ _) dX1_closeHour_2 (fun s_2 es_1 H locs hR hS => ?_)
  refine lv_aload_n hC.x hC.b dX1_closeHour_5 rfl (lv_at hl 0 rfl) ?_
  refine goqp (runV (As := []) (rest := []) hC hK hR hl.1 (c4_X1_leastTaken l hG s_2 τ  ) (call_b hC.ts TC_X1_leastTaken TN_X1 TM_X1_39 hd_X1_leastTaken ⟨Nat.le_of_ble_eq_true rfl, Nat.le_of_ble_eq_true rfl⟩) TI_X1_leastTaken TS_X1_leastTaken (ct_closing G _ _) rfl rfl rfl (Nat.le_of_ble_eq_true rfl) dX1_closeHour_6 ⟨Nat.le_of_ble_eq_true rfl, Nat.le_of_ble_eq_true rfl⟩) hS (fun v_3 H locs w_4 hR hS => ?_)
  rcases w_4 with ⟨rfl, f_5⟩ | ⟨j_6, hq_7, rfl, f_8⟩
  · skip
    refine lv_astoreN (lv' := [(4, .null), (0, .ref (G.2.1 21)), (1, .int hr), (2, .int pa), (3, .int ti)]) hC.x hC.b dX1_closeHour_9 hl (by decide) rfl (fun ls hl => ?_)
    refine lv_aloadN hC.x hC.b dX1_closeHour_11 (lv_at hl 0 rfl) ?_
    refine lv_ifnullN (tgt := 82) hC.x hC.b dX1_closeHour_13 (by decide) ?_
    refine lv_aload_n hC.x hC.b dX1_closeHour_82 rfl (lv_at hl 1 rfl) ?_
    refine rget hC hK hR (ct_closing G _ _) rfl uin_X1 6 (by decide) TF_X1_15 rfl dX1_closeHour_83 ?_
    have rd_9 : (s_2 21 6).toInt = 0 := (congrArg Int32.toInt (show s_2 21 6 = (0 : Int32) from (by rw [es_1]; exact up2_s))).trans (by decide)
    exact reti hC hK hR hS (⟨by exact (by rw [es_1]; exact CF.up (CF.rf) (by omega)), by exact CHV.z (by assumption) (by assumption)⟩) dX1_closeHour_86
  · skip
    refine lv_astore (lv' := [(4, .ref (G.2.1 (80 + j_6))), (0, .ref (G.2.1 21)), (1, .int hr), (2, .int pa), (3, .int ti)]) hC.x hC.b dX1_closeHour_9 hl (by decide) rfl (fun ls hl => ?_)
    refine lv_aload hC.x hC.b dX1_closeHour_11 (lv_at hl 0 rfl) ?_
    refine lv_ifnull hC.x hC.b dX1_closeHour_13 ?_
    refine lv_aload_n hC.x hC.b dX1_closeHour_16 rfl (lv_at hl 1 rfl) ?_
    refine lv_aload hC.x hC.b dX1_closeHour_17 (lv_at hl 0 rfl) ?_
    refine lv_iload_n hC.x hC.b dX1_closeHour_19 rfl (lv_at hl 2 rfl) ?_
    refine gov (runV (As := [.ref (G.2.1 (80 + j_6)), .int hr]) (rest := []) hC hK hR hl.1 (c4_X1_hold l hG s_2 τ j_6 hq_7 hr ) (call_b hC.ts TC_X1_hold TN_X1 TM_X1_43 hd_X1_hold ⟨Nat.le_of_ble_eq_true rfl, Nat.le_of_ble_eq_true rfl⟩) TI_X1_hold TS_X1_hold (ct_closing G _ _) rfl rfl rfl (Nat.le_of_ble_eq_true rfl) dX1_closeHour_20 ⟨Nat.le_of_ble_eq_true rfl, Nat.le_of_ble_eq_true rfl⟩) hS (fun s_12 t_13 H locs w_11 hR hS => ?_)
    try dsimp only [po4_X1_hold] at w_11
    obtain ⟨f_14, f_15⟩ := w_11
    refine lv_aload_n hC.x hC.b dX1_closeHour_23 rfl (lv_at hl 1 rfl) ?_
    refine lv_iload_n hC.x hC.b dX1_closeHour_24 rfl (lv_at hl 2 rfl) ?_
    refine lv_iload_n hC.x hC.b dX1_closeHour_25 rfl (lv_at hl 3 rfl) ?_
    refine gov (runV (As := [.int hr, .int pa]) (rest := []) hC hK hR hl.1 (c4_X1_weigh l hG s_12 t_13 hr pa ) (call_b hC.ts TC_X1_weigh TN_X1 TM_X1_47 hd_X1_weigh ⟨Nat.le_of_ble_eq_true rfl, Nat.le_of_ble_eq_true rfl⟩) TI_X1_weigh TS_X1_weigh (ct_closing G _ _) rfl rfl rfl (Nat.le_of_ble_eq_true rfl) dX1_closeHour_26 ⟨Nat.le_of_ble_eq_true rfl, Nat.le_of_ble_eq_true rfl⟩) hS (fun s_18 t_19 H locs w_17 hR hS => ?_)
    try dsimp only [po4_X1_weigh] at w_17
    have f_20 := w_17
    refine lv_aload_n hC.x hC.b dX1_closeHour_29 rfl (lv_at hl 1 rfl) ?_
    refine lv_iload_n hC.x hC.b dX1_closeHour_30 rfl (lv_at hl 2 rfl) ?_
    refine lv_aload_n hC.x hC.b dX1_closeHour_31 rfl (lv_at hl 1 rfl) ?_
    refine lv_iload_n hC.x hC.b dX1_closeHour_32 rfl (lv_at hl 2 rfl) ?_
    refine gol (runV (As := [.int hr]) (rest := [.int hr, .ref (G.2.1 21)]) hC hK hR hl.1 (c4_X1_makePaper l hG s_18 t_19 hr ) (call_b hC.ts TC_X1_makePaper TN_X1 TM_X1_51 hd_X1_makePaper ⟨Nat.le_of_ble_eq_true rfl, Nat.le_of_ble_eq_true rfl⟩) TI_X1_makePaper TS_X1_makePaper (ct_closing G _ _) rfl rfl rfl (Nat.le_of_ble_eq_true rfl) dX1_closeHour_33 ⟨Nat.le_of_ble_eq_true rfl, Nat.le_of_ble_eq_true rfl⟩) hS (fun v_21 s_23 t_24 H locs w_22 hR hS => ?_)
    try dsimp only [po4_X1_makePaper] at w_22
    have f_25 := w_22
    refine gov (runV (As := [.int hr, .long v_21]) (rest := []) hC hK hR hl.1 (c4_X1_tellXs l hG s_23 t_24 hr v_21 ) (call_b hC.ts TC_X1_tellXs TN_X1 TM_X1_55 hd_X1_tellXs ⟨Nat.le_of_ble_eq_true rfl, Nat.le_of_ble_eq_true rfl⟩) TI_X1_tellXs TS_X1_tellXs (ct_closing G _ _) rfl rfl rfl (Nat.le_of_ble_eq_true rfl) dX1_closeHour_36 ⟨Nat.le_of_ble_eq_true rfl, Nat.le_of_ble_eq_true rfl⟩) hS (fun s_28 t_29 H locs w_27 hR hS => ?_)
    try dsimp only [po4_X1_tellXs] at w_27
    have f_30 := w_27
    refine lv_aload_n hC.x hC.b dX1_closeHour_39 rfl (lv_at hl 1 rfl) ?_
    refine lv_iload_n hC.x hC.b dX1_closeHour_40 rfl (lv_at hl 2 rfl) ?_
    refine lv_iload_n hC.x hC.b dX1_closeHour_41 rfl (lv_at hl 4 rfl) ?_
    refine gov (runV (As := [.int hr, .int ti]) (rest := []) hC hK hR hl.1 (c4_X1_judgeAll l hG s_28 t_29 hr ti (by first | omega | assumption)) (call_b hC.ts TC_X1_judgeAll TN_X1 TM_X1_59 hd_X1_judgeAll ⟨Nat.le_of_ble_eq_true rfl, Nat.le_of_ble_eq_true rfl⟩) TI_X1_judgeAll TS_X1_judgeAll (ct_closing G _ _) rfl rfl rfl (Nat.le_of_ble_eq_true rfl) dX1_closeHour_42 ⟨Nat.le_of_ble_eq_true rfl, Nat.le_of_ble_eq_true rfl⟩) hS (fun s_33 t_34 H locs w_32 hR hS => ?_)
    try dsimp only [po4_X1_judgeAll] at w_32
    have f_35 := w_32
    refine lv_aload_n hC.x hC.b dX1_closeHour_45 rfl (lv_at hl 1 rfl) ?_
    refine rget hC hK hR (ct_closing G _ _) rfl uin_X1 2 (by decide) TF_X1_27 rfl dX1_closeHour_46 ?_
    refine lv_iconst (v := 0) hC.x hC.b dX1_closeHour_49 (by decide) ?_
    refine lv_iload_n hC.x hC.b dX1_closeHour_50 rfl (lv_at hl 2 rfl) ?_
    refine lv_aload hC.x hC.b dX1_closeHour_51 (lv_at hl 0 rfl) ?_
    refine rget hC hK hR (ct_clock hq_7 G _ _) rfl uin_X0 0 (by decide) TF_X1_62 rfl dX1_closeHour_53 ?_
    have av_36 : (0 : Int32).toInt = 0 := by decide
    have av_37 : (nI j_6).toInt = ((j_6 : Nat) : Int) := (nI_T _ (by omega))
    refine gov (runV (As := [.int (0 : Int32), .int hr, .int (nI j_6)]) (rest := []) hC hK hR hl.1 (c4_X7_tellPaper l hG s_33 t_34 (0 : Int32) hr (nI j_6) ) (call_b hC.ts TC_X7_tellPaper TN_X7 TM_X1_67 hd_X7_tellPaper ⟨Nat.le_of_ble_eq_true rfl, Nat.le_of_ble_eq_true rfl⟩) TI_X7_tellPaper TS_X7_tellPaper (ct_told G _ _) rfl rfl rfl (Nat.le_of_ble_eq_true rfl) dX1_closeHour_56 ⟨Nat.le_of_ble_eq_true rfl, Nat.le_of_ble_eq_true rfl⟩) hS (fun s_40 t_41 H locs w_39 hR hS => ?_)
    try dsimp only [po4_X7_tellPaper] at w_39
    have f_42 := w_39
    refine lv_aload_n hC.x hC.b dX1_closeHour_59 rfl (lv_at hl 1 rfl) ?_
    refine rget hC hK hR (ct_closing G _ _) rfl uin_X1 2 (by decide) TF_X1_27 rfl dX1_closeHour_60 ?_
    refine lv_iconst (v := 1) hC.x hC.b dX1_closeHour_63 (by decide) ?_
    refine lv_iload_n hC.x hC.b dX1_closeHour_64 rfl (lv_at hl 2 rfl) ?_
    refine lv_aload_n hC.x hC.b dX1_closeHour_65 rfl (lv_at hl 1 rfl) ?_
    refine rget hC hK hR (ct_closing G _ _) rfl uin_X1 6 (by decide) TF_X1_15 rfl dX1_closeHour_66 ?_
    have rd_43 : (s_40 21 6).toInt = (s_12 21 6).toInt := congrArg Int32.toInt (Eq.trans (show s_40 21 6 = s_33 21 6 from congrFun (f_42.1 21 (by first | omega | (dsimp only; omega))) 6) (Eq.trans (show s_33 21 6 = s_28 21 6 from congrFun (f_35.1 21 (by first | omega | (dsimp only; omega))) 6) (Eq.trans (show s_28 21 6 = s_23 21 6 from congrFun (f_30.1 21 (by first | omega | (dsimp only; omega))) 6) (Eq.trans (show s_23 21 6 = s_18 21 6 from congrFun (f_25.1 21 (by first | omega | (dsimp only; omega))) 6) (show s_18 21 6 = s_12 21 6 from congrFun (f_20.1 21 (by first | omega | (dsimp only; omega))) 6)))))
    have av_44 : (1 : Int32).toInt = 1 := by decide
    refine gov (runV (As := [.int (1 : Int32), .int hr, .int (s_40 21 6)]) (rest := []) hC hK hR hl.1 (c4_X7_tellPaper l hG s_40 t_41 (1 : Int32) hr (s_40 21 6) ) (call_b hC.ts TC_X7_tellPaper TN_X7 TM_X1_67 hd_X7_tellPaper ⟨Nat.le_of_ble_eq_true rfl, Nat.le_of_ble_eq_true rfl⟩) TI_X7_tellPaper TS_X7_tellPaper (ct_told G _ _) rfl rfl rfl (Nat.le_of_ble_eq_true rfl) dX1_closeHour_69 ⟨Nat.le_of_ble_eq_true rfl, Nat.le_of_ble_eq_true rfl⟩) hS (fun s_47 t_48 H locs w_46 hR hS => ?_)
    try dsimp only [po4_X7_tellPaper] at w_46
    have f_49 := w_46
    refine lv_aload_n hC.x hC.b dX1_closeHour_72 rfl (lv_at hl 1 rfl) ?_
    refine rget hC hK hR (ct_closing G _ _) rfl uin_X1 2 (by decide) TF_X1_27 rfl dX1_closeHour_73 ?_
    refine lv_iconst (v := 5) hC.x hC.b dX1_closeHour_76 (by decide) ?_
    refine lv_iload_n hC.x hC.b dX1_closeHour_77 rfl (lv_at hl 2 rfl) ?_
    refine lv_iload_n hC.x hC.b dX1_closeHour_78 rfl (lv_at hl 3 rfl) ?_
    have av_50 : (5 : Int32).toInt = 5 := by decide
    refine gov (runV (As := [.int (5 : Int32), .int hr, .int pa]) (rest := []) hC hK hR hl.1 (c4_X7_tellPaper l hG s_47 t_48 (5 : Int32) hr pa ) (call_b hC.ts TC_X7_tellPaper TN_X7 TM_X1_67 hd_X7_tellPaper ⟨Nat.le_of_ble_eq_true rfl, Nat.le_of_ble_eq_true rfl⟩) TI_X7_tellPaper TS_X7_tellPaper (ct_told G _ _) rfl rfl rfl (Nat.le_of_ble_eq_true rfl) dX1_closeHour_79 ⟨Nat.le_of_ble_eq_true rfl, Nat.le_of_ble_eq_true rfl⟩) hS (fun s_53 t_54 H locs w_52 hR hS => ?_)
    try dsimp only [po4_X7_tellPaper] at w_52
    have f_55 := w_52
    refine lv_aload_n hC.x hC.b dX1_closeHour_82 rfl (lv_at hl 1 rfl) ?_
    refine rget hC hK hR (ct_closing G _ _) rfl uin_X1 6 (by decide) TF_X1_15 rfl dX1_closeHour_83 ?_
    have rd_56 : (s_53 21 6).toInt = (s_12 21 6).toInt := congrArg Int32.toInt (Eq.trans (show s_53 21 6 = s_47 21 6 from congrFun (f_55.1 21 (by first | omega | (dsimp only; omega))) 6) (Eq.trans (show s_47 21 6 = s_40 21 6 from congrFun (f_49.1 21 (by first | omega | (dsimp only; omega))) 6) (Eq.trans (show s_40 21 6 = s_33 21 6 from congrFun (f_42.1 21 (by first | omega | (dsimp only; omega))) 6) (Eq.trans (show s_33 21 6 = s_28 21 6 from congrFun (f_35.1 21 (by first | omega | (dsimp only; omega))) 6) (Eq.trans (show s_28 21 6 = s_23 21 6 from congrFun (f_30.1 21 (by first | omega | (dsimp only; omega))) 6) (Eq.trans (show s_23 21 6 = s_18 21 6 from congrFun (f_25.1 21 (by first | omega | (dsimp only; omega))) 6) (show s_18 21 6 = s_12 21 6 from congrFun (f_20.1 21 (by first | omega | (dsimp only; omega))) 6)))))))
    exact reti hC hK hR hS (⟨by exact (CF.tr (CF.tr (CF.tr (CF.tr (CF.tr (CF.tr (CF.tr (CF.tr (by rw [es_1]; exact CF.up (CF.rf) (by omega)) f_14) (CG.cf f_20)) (CG.cf f_25)) (CG.cf f_30)) (CG.cf f_35)) (CG.cf f_42)) (CG.cf f_49)) (CG.cf f_55)), by exact CHV.r (by assumption) (by assumption) (by assumption) (by assumption) (Eq.trans (show s_53 21 6 = s_47 21 6 from congrFun (f_55.1 21 (by first | omega | (dsimp only; omega))) 6) (Eq.trans (show s_47 21 6 = s_40 21 6 from congrFun (f_49.1 21 (by first | omega | (dsimp only; omega))) 6) (Eq.trans (show s_40 21 6 = s_33 21 6 from congrFun (f_42.1 21 (by first | omega | (dsimp only; omega))) 6) (Eq.trans (show s_33 21 6 = s_28 21 6 from congrFun (f_35.1 21 (by first | omega | (dsimp only; omega))) 6) (Eq.trans (show s_28 21 6 = s_23 21 6 from congrFun (f_30.1 21 (by first | omega | (dsimp only; omega))) 6) (Eq.trans (show s_23 21 6 = s_18 21 6 from congrFun (f_25.1 21 (by first | omega | (dsimp only; omega))) 6) (show s_18 21 6 = s_12 21 6 from congrFun (f_20.1 21 (by first | omega | (dsimp only; omega))) 6)))))))⟩) dX1_closeHour_86

abbrev po4_X9_close (σ : SI) (τ : SL) : Int32 → SI × SL → Prop := fun v u => ((v = (-1)) ∧ (u.1 = σ) ∧ (u.2 = τ) ∧ (200 ≤ (σ 0 8).toInt)) ∨ (((σ 0 8).toInt < 200) ∧ (ClC σ u.1) ∧ ((u.1 0 8).toInt = (σ 0 8).toInt + 1) ∧ ((0 < (σ 0 12).toInt ∧ (u.1 0 12).toInt = max 0 ((σ 0 12).toInt - (σ 0 11).toInt)) ∨ ((σ 0 12).toInt ≤ 0 ∧ (u.1 0 12).toInt = min 0 ((σ 0 12).toInt + (σ 0 11).toInt))) ∧ (CHV σ (σ 0 8) v))
set_option maxRecDepth 100000 in
set_option maxHeartbeats 4000000 in
theorem c4_X9_close (l : Launch) {G : Gx} {A : Nat → Prop} (hG : GOk G A) (σ : SI) (τ : SL) (hnow : 0 ≤ (σ 0 8).toInt ∧ (σ 0 8).toInt ≤ 200) (hof : -1000000 ≤ (σ 0 12).toInt ∧ (σ 0 12).toInt ≤ 1000000) (hpc : 0 ≤ (σ 0 11).toInt ∧ (σ 0 11).toInt ≤ 3599) : MI l G A 6 yX9_close cX9_close 2 (some .int) [.ref (G.2.1 0)] (σ, τ) (po4_X9_close σ τ ) := by
  refine met_of (own := RX9) (by decide +kernel) rfl [(0, .ref (G.2.1 0))] rfl (Nat.le_of_ble_eq_true rfl) ?_
  intro p e s m args below meth c ls hC hK hR hl
  have hS : va_S A s.heap s.heap [] := va_S.rf
  refine lv_aload_n hC.x hC.b dX9_close_0 rfl (lv_at hl 0 rfl) ?_
  refine rget hC hK hR (ct_bench G _ _) rfl uin_X9 8 (by decide) TF_X9_65 rfl dX9_close_1 ?_
  refine lv_sipush (v := 200) hC.x hC.b dX9_close_4 (by decide) ?_
  refine bi_lt (tgt := 12) (a := (σ 0 8).toInt) (b := 200) hC.x hC.b rfl rfl dX9_close_7 (by decide) (fun c_1 => ?_) (fun c_1 => ?_)
  · skip
    refine lv_aload_n hC.x hC.b dX9_close_12 rfl (lv_at hl 0 rfl) ?_
    refine rget hC hK hR (ct_bench G _ _) rfl uin_X9 5 (by decide) TF_X9_53 rfl dX9_close_13 ?_
    refine lv_aload_n hC.x hC.b dX9_close_16 rfl (lv_at hl 0 rfl) ?_
    refine rget hC hK hR (ct_bench G _ _) rfl uin_X9 8 (by decide) TF_X9_65 rfl dX9_close_17 ?_
    refine lv_aload_n hC.x hC.b dX9_close_20 rfl (lv_at hl 0 rfl) ?_
    refine rget hC hK hR (ct_bench G _ _) rfl uin_X9 9 (by decide) TF_X9_68 rfl dX9_close_21 ?_
    refine lv_aload_n hC.x hC.b dX9_close_24 rfl (lv_at hl 0 rfl) ?_
    refine rget hC hK hR (ct_bench G _ _) rfl uin_X9 10 (by decide) TF_X9_71 rfl dX9_close_25 ?_
    refine goi (runV (As := [.int (σ 0 8), .int (σ 0 9), .int (σ 0 10)]) (rest := []) hC hK hR hl.1 (c4_X1_closeHour l hG σ τ (σ 0 8) (σ 0 9) (σ 0 10) (by first | omega | assumption)) (call_b hC.ts TC_X1_closeHour TN_X1 TM_X9_194 hd_X1_closeHour ⟨Nat.le_of_ble_eq_true rfl, Nat.le_of_ble_eq_true rfl⟩) TI_X1_closeHour TS_X1_closeHour (ct_closing G _ _) rfl rfl rfl (Nat.le_of_ble_eq_true rfl) dX9_close_28 ⟨Nat.le_of_ble_eq_true rfl, Nat.le_of_ble_eq_true rfl⟩) hS (fun v_2 s_4 t_5 H locs w_3 hR hS => ?_)
    try dsimp only [po4_X1_closeHour] at w_3
    obtain ⟨f_6, f_7⟩ := w_3
    refine lv_istore_n (lv' := [(1, .int v_2), (0, .ref (G.2.1 0))]) hC.x hC.b dX9_close_31 rfl hl (by decide) rfl (fun ls hl => ?_)
    refine lv_aload_n hC.x hC.b dX9_close_32 rfl (lv_at hl 1 rfl) ?_
    have rd_8 : (s_4 0 12).toInt = (σ 0 12).toInt := congrArg Int32.toInt (show s_4 0 12 = σ 0 12 from congrFun (f_6.1 0 (by first | omega | (dsimp only; omega))) 12)
    have rd_9 : (s_4 0 11).toInt = (σ 0 11).toInt := congrArg Int32.toInt (show s_4 0 11 = σ 0 11 from congrFun (f_6.1 0 (by first | omega | (dsimp only; omega))) 11)
    refine gov (runV (As := []) (rest := []) hC hK hR hl.1 (c_X9_moveScale l hG s_4 t_5  (by omega) (by omega)) (call_b hC.ts TC_X9_moveScale TN_X9 TM_X9_197 hd_X9_moveScale ⟨Nat.le_of_ble_eq_true rfl, Nat.le_of_ble_eq_true rfl⟩) TI_X9_moveScale TS_X9_moveScale (ct_bench G _ _) rfl rfl rfl (Nat.le_of_ble_eq_true rfl) dX9_close_33 ⟨Nat.le_of_ble_eq_true rfl, Nat.le_of_ble_eq_true rfl⟩) hS (fun s_12 t_13 H locs w_11 hR hS => ?_)
    try dsimp only [po_X9_moveScale] at w_11
    obtain ⟨et_14, f_15, f_16, f_17⟩ := w_11
    rw [et_14] at hR
    refine lv_iload_n hC.x hC.b dX9_close_36 rfl (lv_at hl 0 rfl) ?_
    refine bz_le (tgt := 56) (a := v_2.toInt) (b := 0) hC.x hC.b rfl rfl dX9_close_37 (by decide) (fun c_18 => ?_) (fun c_18 => ?_)
    · skip
      refine lv_aload_n hC.x hC.b dX9_close_56 rfl (lv_at hl 1 rfl) ?_
      refine lv_dup hC.x hC.b dX9_close_57 rfl ?_
      refine rget hC hK hR (ct_bench G _ _) rfl uin_X9 8 (by decide) TF_X9_65 rfl dX9_close_58 ?_
      have rd_19 : (s_12 0 8).toInt = (σ 0 8).toInt := congrArg Int32.toInt (Eq.trans (show s_12 0 8 = s_4 0 8 from f_16 8 (by omega)) (show s_4 0 8 = σ 0 8 from congrFun (f_6.1 0 (by first | omega | (dsimp only; omega))) 8))
      refine lv_iconst (v := 1) hC.x hC.b dX9_close_61 (by decide) ?_
      refine lv_iadd hC.x hC.b dX9_close_62 ?_
      have pr_20 : ((s_12 0 8) + (1 : Int32)).toInt = ((s_12 0 8).toInt + 1) := addI rfl rfl (by omega) (by omega)
      refine rputi hC hK hG hR hS (ct_bench G _ _) rfl uin_X9 tyX9 tyX9_ok nmX9 8 (by decide) TF_X9_65 rfl (Or.inl rfl) (Nat.le_of_ble_eq_true rfl) rfl (ct_bench G _ _) dX9_close_63 (fun s_22 es_21 H locs hR hS => ?_)
      refine lv_iload_n hC.x hC.b dX9_close_66 rfl (lv_at hl 0 rfl) ?_
      have rd_23 : (s_22 0 8).toInt = ((s_12 0 8) + (1 : Int32)).toInt := congrArg Int32.toInt (show s_22 0 8 = ((s_12 0 8) + (1 : Int32)) from (by rw [es_21]; exact up2_s))
      have rd_24 : (s_22 0 12).toInt = (s_12 0 12).toInt := congrArg Int32.toInt (show s_22 0 12 = s_12 0 12 from (by rw [es_21]; exact up2_n (by omega)))
      exact reti hC hK hR hS (by first | exact Or.inl (⟨by subst es_21; (first | rfl | omega), by subst es_21; (first | rfl | assumption), by subst es_21; (rfl), by subst es_21; (first | omega | assumption)⟩) | exact Or.inr ((⟨by subst es_21; (first | omega | assumption), by subst es_21; (exact ClC.mk (by assumption) (by assumption) (by assumption) (by first | exact CG.cf (by assumption) | exact CF.rf)), by first | omega | (dsimp only; omega), by first | omega | (dsimp only; omega), by assumption⟩)) | exact False.elim (by omega)) dX9_close_67
    · skip
      refine lv_aload_n hC.x hC.b dX9_close_40 rfl (lv_at hl 1 rfl) ?_
      refine rget hC hK hR (ct_bench G _ _) rfl uin_X9 1 (by decide) TF_X9_19 rfl dX9_close_41 ?_
      refine lv_iconst (v := 4) hC.x hC.b dX9_close_44 (by decide) ?_
      refine lv_aload_n hC.x hC.b dX9_close_45 rfl (lv_at hl 1 rfl) ?_
      refine rget hC hK hR (ct_bench G _ _) rfl uin_X9 8 (by decide) TF_X9_65 rfl dX9_close_46 ?_
      have rd_25 : (s_12 0 8).toInt = (σ 0 8).toInt := congrArg Int32.toInt (Eq.trans (show s_12 0 8 = s_4 0 8 from f_16 8 (by omega)) (show s_4 0 8 = σ 0 8 from congrFun (f_6.1 0 (by first | omega | (dsimp only; omega))) 8))
      refine lv_aload_n hC.x hC.b dX9_close_49 rfl (lv_at hl 1 rfl) ?_
      refine rget hC hK hR (ct_bench G _ _) rfl uin_X9 12 (by decide) TF_X9_77 rfl dX9_close_50 ?_
      have av_26 : (4 : Int32).toInt = 4 := by decide
      refine gov (runV (As := [.int (4 : Int32), .int (s_12 0 8), .int (s_12 0 12)]) (rest := []) hC hK hR hl.1 (c4_X7_tellPaper l hG s_12 t_5 (4 : Int32) (s_12 0 8) (s_12 0 12) ) (call_b hC.ts TC_X7_tellPaper TN_X7 TM_X9_200 hd_X7_tellPaper ⟨Nat.le_of_ble_eq_true rfl, Nat.le_of_ble_eq_true rfl⟩) TI_X7_tellPaper TS_X7_tellPaper (ct_told G _ _) rfl rfl rfl (Nat.le_of_ble_eq_true rfl) dX9_close_53 ⟨Nat.le_of_ble_eq_true rfl, Nat.le_of_ble_eq_true rfl⟩) hS (fun s_29 t_30 H locs w_28 hR hS => ?_)
      try dsimp only [po4_X7_tellPaper] at w_28
      have f_31 := w_28
      refine lv_aload_n hC.x hC.b dX9_close_56 rfl (lv_at hl 1 rfl) ?_
      refine lv_dup hC.x hC.b dX9_close_57 rfl ?_
      refine rget hC hK hR (ct_bench G _ _) rfl uin_X9 8 (by decide) TF_X9_65 rfl dX9_close_58 ?_
      have rd_32 : (s_29 0 8).toInt = (σ 0 8).toInt := congrArg Int32.toInt (Eq.trans (show s_29 0 8 = s_12 0 8 from congrFun (f_31.1 0 (by first | omega | (dsimp only; omega))) 8) (Eq.trans (show s_12 0 8 = s_4 0 8 from f_16 8 (by omega)) (show s_4 0 8 = σ 0 8 from congrFun (f_6.1 0 (by first | omega | (dsimp only; omega))) 8)))
      refine lv_iconst (v := 1) hC.x hC.b dX9_close_61 (by decide) ?_
      refine lv_iadd hC.x hC.b dX9_close_62 ?_
      have pr_33 : ((s_29 0 8) + (1 : Int32)).toInt = ((s_29 0 8).toInt + 1) := addI rfl rfl (by omega) (by omega)
      refine rputi hC hK hG hR hS (ct_bench G _ _) rfl uin_X9 tyX9 tyX9_ok nmX9 8 (by decide) TF_X9_65 rfl (Or.inl rfl) (Nat.le_of_ble_eq_true rfl) rfl (ct_bench G _ _) dX9_close_63 (fun s_35 es_34 H locs hR hS => ?_)
      refine lv_iload_n hC.x hC.b dX9_close_66 rfl (lv_at hl 0 rfl) ?_
      have rd_36 : (s_35 0 8).toInt = ((s_29 0 8) + (1 : Int32)).toInt := congrArg Int32.toInt (show s_35 0 8 = ((s_29 0 8) + (1 : Int32)) from (by rw [es_34]; exact up2_s))
      have rd_37 : (s_35 0 12).toInt = (s_12 0 12).toInt := congrArg Int32.toInt (Eq.trans (show s_35 0 12 = s_29 0 12 from (by rw [es_34]; exact up2_n (by omega))) (show s_29 0 12 = s_12 0 12 from congrFun (f_31.1 0 (by first | omega | (dsimp only; omega))) 12))
      exact reti hC hK hR hS (by first | exact Or.inl (⟨by subst es_34; (first | rfl | omega), by subst es_34; (first | rfl | assumption), by subst es_34; (rfl), by subst es_34; (first | omega | assumption)⟩) | exact Or.inr ((⟨by subst es_34; (first | omega | assumption), by subst es_34; (exact ClC.mk (by assumption) (by assumption) (by assumption) (by first | exact CG.cf (by assumption) | exact CF.rf)), by first | omega | (dsimp only; omega), by first | omega | (dsimp only; omega), by assumption⟩)) | exact False.elim (by omega)) dX9_close_67
  · skip
    refine lv_iconst (v := (-1)) hC.x hC.b dX9_close_10 (by decide) ?_
    exact reti hC hK hR hS (by first | exact Or.inl (⟨by first | rfl | omega, by first | rfl | assumption, by rfl, by first | omega | assumption⟩) | exact Or.inr ((⟨by first | omega | assumption, by exact ClC.mk (by assumption) (by assumption) (by assumption) (by first | exact CG.cf (by assumption) | exact CF.rf), by first | omega | (dsimp only; omega), by first | omega | (dsimp only; omega), by assumption⟩)) | exact False.elim (by omega)) dX9_close_11

abbrev po4_X10_root (σ : SI) (τ : SL) : Int32 → SI × SL → Prop := fun v u => u = (σ, τ) ∧ (((-1 ≤ v.toInt ∧ v.toInt < 24) ∧ (RTM σ v)))
set_option maxRecDepth 100000 in
set_option maxHeartbeats 4000000 in
theorem c4_X10_root (l : Launch) {G : Gx} {A : Nat → Prop} (hG : GOk G A) (σ : SI) (τ : SL) : MI l G A 3 yX10_root cX10_root 3 (some .int) [.ref (G.2.1 35)] (σ, τ) (po4_X10_root σ τ ) := by
  refine met_of (own := RX10) (by decide +kernel) rfl [(0, .ref (G.2.1 35))] rfl (Nat.le_of_ble_eq_true rfl) ?_
  intro p e s m args below meth c ls hC hK hR hl
  have hS : va_S A s.heap s.heap [] := va_S.rf
  refine lv_iconst (v := (-1)) hC.x hC.b dX10_root_0 (by decide) ?_
  refine lv_istore_n (lv' := [(1, .int (-1 : Int32)), (0, .ref (G.2.1 35))]) hC.x hC.b dX10_root_1 rfl hl (by decide) rfl (fun ls hl => ?_)
  refine lv_bipush (v := 23) hC.x hC.b dX10_root_2 (by decide) ?_
  refine lv_istore_n (lv' := [(2, .int (23 : Int32)), (1, .int (-1 : Int32)), (0, .ref (G.2.1 35))]) hC.x hC.b dX10_root_4 rfl hl (by decide) rfl (fun ls hl => ?_)
  have L_5 : ∀ (F : Nat) (x1 : Int32) (t : Int32), ((t.toInt + 1).toNat) < F → (-1 ≤ t.toInt ∧ t.toInt < 24) → (-1 ≤ x1.toInt ∧ x1.toInt < 24) → (RTL σ t x1) → ∀ (H : Heap) (locs : List Loc) (ls : Array Slot), RepH G σ τ H → va_S A s.heap H locs → lv_has ls 3 [(0, .ref (G.2.1 35)), (1, .int x1), (2, .int t)] → W p l e (rmD 3) s m args below meth c H locs 0 0 (MQ below (va_Qi (po4_X10_root σ τ ) (BU G) A) args s 0 0 A) (F0 m 5 ls []) := by
    intro F
    induction F with
    | zero => intro x1 t hm; exact absurd hm (Nat.not_lt_zero _)
    | succ F ih_5 =>
      intro x1 t hm_5 hi0_5 hi1_5 hi2_5 H locs ls hR hS hl
      refine lv_iload_n hC.x hC.b dX10_root_5 rfl (lv_at hl 2 rfl) ?_
      refine bz_lt (tgt := 29) (a := t.toInt) (b := 0) hC.x hC.b rfl rfl dX10_root_6 (by decide) (fun c_1 => ?_) (fun c_1 => ?_)
      · skip
        refine lv_iload_n hC.x hC.b dX10_root_29 rfl (lv_at hl 1 rfl) ?_
        exact reti hC hK hR hS ⟨rfl, (⟨by first | omega | assumption, by exact RTL.nd hi2_5 (by omega)⟩)⟩ dX10_root_30
      · skip
        refine lv_aload_n hC.x hC.b dX10_root_9 rfl (lv_at hl 0 rfl) ?_
        refine lv_iload_n hC.x hC.b dX10_root_10 rfl (lv_at hl 2 rfl) ?_
        refine goip (runV (As := [.int t]) (rest := []) hC hK hR hl.1 (c_X10_isTaken l hG σ τ t t.toInt.toNat rfl ) (call_b hC.ts TC_X10_isTaken TN_X10 TM_X10_219 hd_X10_isTaken ⟨Nat.le_of_ble_eq_true rfl, Nat.le_of_ble_eq_true rfl⟩) TI_X10_isTaken TS_X10_isTaken (ct_model G _ _) rfl rfl rfl (Nat.le_of_ble_eq_true rfl) dX10_root_11 ⟨Nat.le_of_ble_eq_true rfl, Nat.le_of_ble_eq_true rfl⟩) hS (fun v_2 H locs w_3 hR hS => ?_)
        rcases w_3 with ⟨rfl, f_4, f_5, f_6, f_7⟩ | ⟨rfl, f_8⟩
        · skip
          refine bz_eq (tgt := 21) (a := 1) (b := 0) hC.x hC.b rfl rfl dX10_root_14 (by decide) (fun c_9 => absurd c_9 (by decide)) (fun _ => ?_)
          refine lv_iload_n hC.x hC.b dX10_root_17 rfl (lv_at hl 2 rfl) ?_
          refine lv_goto (tgt := 22) hC.x hC.b dX10_root_18 (by decide) ?_
          refine lv_istore_n (lv' := [(1, .int t), (0, .ref (G.2.1 35)), (2, .int t)]) hC.x hC.b dX10_root_22 rfl hl (by decide) rfl (fun ls hl => ?_)
          obtain ⟨x_10, ex_11⟩ : ∃ y : Int32, y = t + (-1) := ⟨_, rfl⟩
          have pr_12 : x_10.toInt = t.toInt + (-1) := by rw [ex_11]; exact addI rfl rfl (by omega) (by omega)
          refine lv_iinc (v := x_10) (lv' := [(2, .int x_10), (1, .int t), (0, .ref (G.2.1 35))]) hC.x hC.b dX10_root_23 hl (k := 2) rfl ex_11.symm (by decide) rfl (fun ls hl => ?_)
          refine lv_goto (tgt := 5) hC.x hC.b dX10_root_26 (by decide) ?_
          exact ih_5 t x_10 (by omega) (by first | omega | assumption) (by first | omega | assumption) (by first | exact RTL.tk hi2_5 (by omega) (by omega) ⟨by omega, by omega, by omega, by omega⟩ | exact RTL.sk hi2_5 (by omega) (by omega) (by rintro ⟨h1, h2, h3, h4⟩; omega)) _ _ _ hR hS (lv_sub hl [2, 1, 0] rfl)
        · skip
          refine bz_eq (tgt := 21) (a := 0) (b := 0) hC.x hC.b rfl rfl dX10_root_14 (by decide) (fun _ => ?_) (fun c_13 => absurd c_13 (by decide))
          refine lv_iload_n hC.x hC.b dX10_root_21 rfl (lv_at hl 1 rfl) ?_
          refine lv_istore_n (lv' := [(1, .int x1), (0, .ref (G.2.1 35)), (2, .int t)]) hC.x hC.b dX10_root_22 rfl hl (by decide) rfl (fun ls hl => ?_)
          obtain ⟨x_14, ex_15⟩ : ∃ y : Int32, y = t + (-1) := ⟨_, rfl⟩
          have pr_16 : x_14.toInt = t.toInt + (-1) := by rw [ex_15]; exact addI rfl rfl (by omega) (by omega)
          refine lv_iinc (v := x_14) (lv' := [(2, .int x_14), (1, .int x1), (0, .ref (G.2.1 35))]) hC.x hC.b dX10_root_23 hl (k := 2) rfl ex_15.symm (by decide) rfl (fun ls hl => ?_)
          refine lv_goto (tgt := 5) hC.x hC.b dX10_root_26 (by decide) ?_
          exact ih_5 x1 x_14 (by omega) (by first | omega | assumption) (by first | omega | assumption) (by first | exact RTL.tk hi2_5 (by omega) (by omega) ⟨by omega, by omega, by omega, by omega⟩ | exact RTL.sk hi2_5 (by omega) (by omega) (by rintro ⟨h1, h2, h3, h4⟩; omega)) _ _ _ hR hS (lv_sub hl [2, 1, 0] rfl)
  exact L_5 _ (-1 : Int32) (23 : Int32) (Nat.lt_succ_self _) (by decide) (by decide) (by exact RTL.st (by decide) (by decide)) _ _ _ hR hS (lv_sub hl [2, 1, 0] rfl)

abbrev po4_X10_closes (σ : SI) (τ : SL) (ra : Int32) (rq : Nat) : Int32 → SI × SL → Prop := fun v u => ((MRel (fun k => (41 ≤ k ∧ k ≤ 46 ∧ k ≠ 42 ∧ k ≠ 43) ∨ (52 ≤ k ∧ k ≤ 69) ∨ k = 71) (fun j => j = 37 ∨ j = 41 ∨ j = 43 ∨ j = 44) σ u.1) ∧ (KM u.1) ∧ (CntR (PM σ ra) (QM σ ra) 0 24 v))
set_option maxRecDepth 100000 in
set_option maxHeartbeats 4000000 in
theorem c4_X10_closes (l : Launch) {G : Gx} {A : Nat → Prop} (hG : GOk G A) (σ : SI) (τ : SL) (ra : Int32) (rq : Nat) (hp_rq : ra.toInt.toNat = rq) (hnw : 0 ≤ (σ 35 29).toInt ∧ (σ 35 29).toInt ≤ 200) (hra : 0 ≤ ra.toInt ∧ ra.toInt < 24) (hln : LnM σ) (hcl : ClM σ) (hkm : KM σ) : MI l G A 6 yX10_closes cX10_closes 17 (some .int) [.ref (G.2.1 35), .int ra] (σ, τ) (po4_X10_closes σ τ ra rq) := by
  refine met_of (own := RX10) (by decide +kernel) rfl [(0, .ref (G.2.1 35)), (1, .int ra)] rfl (Nat.le_of_ble_eq_true rfl) ?_
  intro p e s m args below meth c ls hC hK hR hl
  have hS : va_S A s.heap s.heap [] := va_S.rf
  refine lv_iconst (v := 0) hC.x hC.b dX10_closes_0 (by decide) ?_
  refine lv_istore_n (lv' := [(2, .int (0 : Int32)), (0, .ref (G.2.1 35)), (1, .int ra)]) hC.x hC.b dX10_closes_1 rfl hl (by decide) rfl (fun ls hl => ?_)
  refine lv_lconst (v := 0) hC.x hC.b dX10_closes_2 (by decide) ?_
  refine lv_lstore_n (lv' := [(3, .long (0 : Int64)), (2, .int (0 : Int32)), (0, .ref (G.2.1 35)), (1, .int ra)]) hC.x hC.b dX10_closes_3 rfl hl (by decide) rfl (fun ls hl => ?_)
  refine lv_iconst (v := 0) hC.x hC.b dX10_closes_4 (by decide) ?_
  refine lv_istore (lv' := [(5, .int (0 : Int32)), (3, .long (0 : Int64)), (2, .int (0 : Int32)), (0, .ref (G.2.1 35)), (1, .int ra)]) hC.x hC.b dX10_closes_5 hl (by decide) rfl (fun ls hl => ?_)
  have L_7 : ∀ (F : Nat) (x2 : Int32) (x3 : Int64) (n : Nat) (s1 : SI) (t1 : SL), (24 - n) < F → (KM s1) → (n ≤ 24) → (CntR (PM σ ra) (QM σ ra) 0 n x2) → (MRel (fun k => (41 ≤ k ∧ k ≤ 46 ∧ k ≠ 42 ∧ k ≠ 43) ∨ (52 ≤ k ∧ k ≤ 69) ∨ k = 71) (fun j => j = 37 ∨ j = 41 ∨ j = 43 ∨ j = 44) σ s1) → ∀ (H : Heap) (locs : List Loc) (ls : Array Slot), RepH G s1 t1 H → va_S A s.heap H locs → lv_has ls 17 [(0, .ref (G.2.1 35)), (1, .int ra), (2, .int x2), (3, .long x3), (5, .int (nI n))] → W p l e (rmD 6) s m args below meth c H locs 0 0 (MQ below (va_Qi (po4_X10_closes σ τ ra rq) (BU G) A) args s 0 0 A) (F0 m 7 ls []) := by
    intro F
    induction F with
    | zero => intro x2 x3 n s1 t1 hm; exact absurd hm (Nat.not_lt_zero _)
    | succ F ih_7 =>
      intro x2 x3 n s1 t1 hm_7 hi0_7 hi1_7 hi2_7 hi3_7 H locs ls hR hS hl
      have hnI := nI_T n (by omega)
      have h29 : (s1 35 29).toInt = (σ 35 29).toInt := congrArg Int32.toInt (hi3_7.2 29 (by omega))
      refine lv_iload hC.x hC.b dX10_closes_7 (lv_at hl 4 rfl) ?_
      refine lv_bipush (v := 24) hC.x hC.b dX10_closes_9 (by decide) ?_
      refine bi_ge (tgt := 166) (a := (n : Int)) (b := 24) hC.x hC.b (nI_T n (by omega)) rfl dX10_closes_11 (by decide) (fun c_1 => ?_) (fun c_1 => ?_)
      · skip
        have L_194 : ∀ (x5 : Int64), ∀ (H : Heap) (locs : List Loc) (ls : Array Slot), RepH G s1 t1 H → va_S A s.heap H locs → lv_has ls 17 [(0, .ref (G.2.1 35)), (1, .int ra), (2, .int x2), (5, .long x5)] → W p l e (rmD 6) s m args below meth c H locs 0 0 (MQ below (va_Qi (po4_X10_closes σ τ ra rq) (BU G) A) args s 0 0 A) (F0 m 194 ls []) := by
          intro x5  H locs ls hR hS hl
          refine lv_lconst (v := 0) hC.x hC.b dX10_closes_194 (by decide) ?_
          refine lv_lstore (lv' := [(7, .long (0 : Int64)), (0, .ref (G.2.1 35)), (1, .int ra), (2, .int x2), (5, .long x5)]) hC.x hC.b dX10_closes_195 hl (by decide) rfl (fun ls hl => ?_)
          refine lv_lconst (v := 0) hC.x hC.b dX10_closes_197 (by decide) ?_
          refine lv_lstore (lv' := [(9, .long (0 : Int64)), (7, .long (0 : Int64)), (0, .ref (G.2.1 35)), (1, .int ra), (2, .int x2), (5, .long x5)]) hC.x hC.b dX10_closes_198 hl (by decide) rfl (fun ls hl => ?_)
          refine lv_iconst (v := 0) hC.x hC.b dX10_closes_200 (by decide) ?_
          refine lv_istore (lv' := [(11, .int (0 : Int32)), (9, .long (0 : Int64)), (7, .long (0 : Int64)), (0, .ref (G.2.1 35)), (1, .int ra), (2, .int x2), (5, .long x5)]) hC.x hC.b dX10_closes_201 hl (by decide) rfl (fun ls hl => ?_)
          have L_203 : ∀ (F : Nat) (x7 : Int64) (x9 : Int64) (n2 : Nat) (s2 : SI) (t2 : SL), (24 - n2) < F → (KM s2) → (n2 ≤ 24) → (MRel (fun k => (41 ≤ k ∧ k ≤ 46 ∧ k ≠ 42 ∧ k ≠ 43) ∨ (52 ≤ k ∧ k ≤ 69) ∨ k = 71) (fun j => j = 37 ∨ j = 41 ∨ j = 43 ∨ j = 44) σ s2) → ∀ (H : Heap) (locs : List Loc) (ls : Array Slot), RepH G s2 t2 H → va_S A s.heap H locs → lv_has ls 17 [(0, .ref (G.2.1 35)), (1, .int ra), (2, .int x2), (5, .long x5), (7, .long x7), (9, .long x9), (11, .int (nI n2))] → W p l e (rmD 6) s m args below meth c H locs 0 0 (MQ below (va_Qi (po4_X10_closes σ τ ra rq) (BU G) A) args s 0 0 A) (F0 m 203 ls []) := by
            intro F
            induction F with
            | zero => intro x7 x9 n2 s2 t2 hm; exact absurd hm (Nat.not_lt_zero _)
            | succ F ih_203 =>
              intro x7 x9 n2 s2 t2 hm_203 hi0_203 hi1_203 hi2_203 H locs ls hR hS hl
              have hnI2 := nI_T n2 (by omega)
              refine lv_iload hC.x hC.b dX10_closes_203 (lv_at hl 6 rfl) ?_
              refine lv_bipush (v := 24) hC.x hC.b dX10_closes_205 (by decide) ?_
              refine bi_ge (tgt := 329) (a := (n2 : Int)) (b := 24) hC.x hC.b (nI_T n2 (by omega)) rfl dX10_closes_207 (by decide) (fun c_2 => ?_) (fun c_2 => ?_)
              · skip
                have L_349 : ∀ (x11 : Int64), ∀ (H : Heap) (locs : List Loc) (ls : Array Slot), RepH G s2 t2 H → va_S A s.heap H locs → lv_has ls 17 [(0, .ref (G.2.1 35)), (1, .int ra), (2, .int x2), (7, .long x7), (9, .long x9), (11, .long x11)] → W p l e (rmD 6) s m args below meth c H locs 0 0 (MQ below (va_Qi (po4_X10_closes σ τ ra rq) (BU G) A) args s 0 0 A) (F0 m 349 ls []) := by
                  intro x11  H locs ls hR hS hl
                  have L_400 : ∀ (s5 : SI), (KM s5) → (MRel (fun k => (41 ≤ k ∧ k ≤ 46 ∧ k ≠ 42 ∧ k ≠ 43) ∨ (52 ≤ k ∧ k ≤ 69) ∨ k = 71) (fun j => j = 37 ∨ j = 41 ∨ j = 43 ∨ j = 44) σ s5) → ∀ (H : Heap) (locs : List Loc) (ls : Array Slot), RepH G s5 t2 H → va_S A s.heap H locs → lv_has ls 17 [(0, .ref (G.2.1 35)), (1, .int ra), (2, .int x2), (11, .long x11)] → W p l e (rmD 6) s m args below meth c H locs 0 0 (MQ below (va_Qi (po4_X10_closes σ τ ra rq) (BU G) A) args s 0 0 A) (F0 m 400 ls []) := by
                    intro s5 hi0_400 hi1_400 H locs ls hR hS hl
                    refine lv_iconst (v := 0) hC.x hC.b dX10_closes_400 (by decide) ?_
                    refine lv_istore (lv' := [(13, .int (0 : Int32)), (0, .ref (G.2.1 35)), (1, .int ra), (2, .int x2), (11, .long x11)]) hC.x hC.b dX10_closes_401 hl (by decide) rfl (fun ls hl => ?_)
                    have L_403 : ∀ (F : Nat) (n3 : Nat) (s3 : SI) (t3 : SL), (24 - n3) < F → (KM s3) → (n3 ≤ 24) → (MRel (fun k => (41 ≤ k ∧ k ≤ 46 ∧ k ≠ 42 ∧ k ≠ 43) ∨ (52 ≤ k ∧ k ≤ 69) ∨ k = 71) (fun j => j = 37 ∨ j = 41 ∨ j = 43 ∨ j = 44) σ s3) → ∀ (H : Heap) (locs : List Loc) (ls : Array Slot), RepH G s3 t3 H → va_S A s.heap H locs → lv_has ls 17 [(0, .ref (G.2.1 35)), (1, .int ra), (2, .int x2), (11, .long x11), (13, .int (nI n3))] → W p l e (rmD 6) s m args below meth c H locs 0 0 (MQ below (va_Qi (po4_X10_closes σ τ ra rq) (BU G) A) args s 0 0 A) (F0 m 403 ls []) := by
                      intro F
                      induction F with
                      | zero => intro n3 s3 t3 hm; exact absurd hm (Nat.not_lt_zero _)
                      | succ F ih_403 =>
                        intro n3 s3 t3 hm_403 hi0_403 hi1_403 hi2_403 H locs ls hR hS hl
                        have hnI3 := nI_T n3 (by omega)
                        refine lv_iload hC.x hC.b dX10_closes_403 (lv_at hl 4 rfl) ?_
                        refine lv_bipush (v := 24) hC.x hC.b dX10_closes_405 (by decide) ?_
                        refine bi_ge (tgt := 554) (a := (n3 : Int)) (b := 24) hC.x hC.b (nI_T n3 (by omega)) rfl dX10_closes_407 (by decide) (fun c_3 => ?_) (fun c_3 => ?_)
                        · skip
                          refine lv_iconst (v := 0) hC.x hC.b dX10_closes_554 (by decide) ?_
                          refine lv_istore (lv' := [(13, .int (0 : Int32)), (0, .ref (G.2.1 35)), (1, .int ra), (2, .int x2), (11, .long x11)]) hC.x hC.b dX10_closes_555 hl (by decide) rfl (fun ls hl => ?_)
                          have L_557 : ∀ (F : Nat) (n4 : Nat) (s4 : SI) (t4 : SL), (24 - n4) < F → (KM s4) → (n4 ≤ 24) → (MRel (fun k => (41 ≤ k ∧ k ≤ 46 ∧ k ≠ 42 ∧ k ≠ 43) ∨ (52 ≤ k ∧ k ≤ 69) ∨ k = 71) (fun j => j = 37 ∨ j = 41 ∨ j = 43 ∨ j = 44) σ s4) → ∀ (H : Heap) (locs : List Loc) (ls : Array Slot), RepH G s4 t4 H → va_S A s.heap H locs → lv_has ls 17 [(0, .ref (G.2.1 35)), (1, .int ra), (2, .int x2), (13, .int (nI n4))] → W p l e (rmD 6) s m args below meth c H locs 0 0 (MQ below (va_Qi (po4_X10_closes σ τ ra rq) (BU G) A) args s 0 0 A) (F0 m 557 ls []) := by
                            intro F
                            induction F with
                            | zero => intro n4 s4 t4 hm; exact absurd hm (Nat.not_lt_zero _)
                            | succ F ih_557 =>
                              intro n4 s4 t4 hm_557 hi0_557 hi1_557 hi2_557 H locs ls hR hS hl
                              have hnI4 := nI_T n4 (by omega)
                              refine lv_iload hC.x hC.b dX10_closes_557 (lv_at hl 3 rfl) ?_
                              refine lv_bipush (v := 24) hC.x hC.b dX10_closes_559 (by decide) ?_
                              refine bi_ge (tgt := 642) (a := (n4 : Int)) (b := 24) hC.x hC.b (nI_T n4 (by omega)) rfl dX10_closes_561 (by decide) (fun c_4 => ?_) (fun c_4 => ?_)
                              · skip
                                refine lv_iload_n hC.x hC.b dX10_closes_642 rfl (lv_at hl 2 rfl) ?_
                                exact reti hC hK hR hS (⟨by exact hi2_557, by exact hi0_557, by (have e9 : n = 24 := by omega); exact e9 ▸ hi2_7⟩) dX10_closes_643
                              · skip
                                refine lv_aload_n hC.x hC.b dX10_closes_564 rfl (lv_at hl 0 rfl) ?_
                                refine rget hC hK hR (ct_model G _ _) rfl uin_X10 16 (by decide) TF_X10_59 rfl dX10_closes_565 ?_
                                refine lv_aload_n hC.x hC.b dX10_closes_568 rfl (lv_at hl 0 rfl) ?_
                                refine lv_aload_n hC.x hC.b dX10_closes_569 rfl (lv_at hl 0 rfl) ?_
                                refine rget hC hK hR (ct_model G _ _) rfl uin_X10 29 (by decide) TF_X10_137 rfl dX10_closes_570 ?_
                                have rd_5 : (s4 35 29).toInt = (σ 35 29).toInt := congrArg Int32.toInt (show s4 35 29 = σ 35 29 from hi2_557.2 29 (by first | omega | (dsimp only; omega)))
                                refine lv_iload hC.x hC.b dX10_closes_573 (lv_at hl 3 rfl) ?_
                                have av_6 : (nI n4).toInt = (n4 : Int) := (nI_T n4 (by omega))
                                refine goip (runV (As := [.int (s4 35 29), .int (nI n4)]) (rest := [.ref (G.2.1 52)]) hC hK hR hl.1 (c_X10_at l hG s4 t4 (s4 35 29) (((s4 35 29).toInt).toNat) (by first | rfl | (rw [show (s4 35 29).toInt = (s4 35 29).toInt from rfl]; done) | (rw [show (s4 35 29).toInt = (s4 35 29).toInt from rfl]; exact rfl)) (nI n4) n4 (by first | rfl | (rw [show (nI n4).toInt = (n4 : Int) from (nI_T n4 (by omega))]; done) | (rw [show (nI n4).toInt = (n4 : Int) from (nI_T n4 (by omega))]; exact (Int.toNat_natCast _))) (by omega) (by omega)) (call_b hC.ts TC_X10_at TN_X10 TM_X10_140 hd_X10_at ⟨Nat.le_of_ble_eq_true rfl, Nat.le_of_ble_eq_true rfl⟩) TI_X10_at TS_X10_at (ct_model G _ _) rfl rfl rfl (Nat.le_of_ble_eq_true rfl) dX10_closes_575 ⟨Nat.le_of_ble_eq_true rfl, Nat.le_of_ble_eq_true rfl⟩) hS (fun v_7 H locs w_8 hR hS => ?_)
                                subst w_8
                                refine lv_aload_n hC.x hC.b dX10_closes_578 rfl (lv_at hl 0 rfl) ?_
                                refine rget hC hK hR (ct_model G _ _) rfl uin_X10 48 (by decide) TF_X10_126 rfl dX10_closes_579 ?_
                                refine lv_iload hC.x hC.b dX10_closes_582 (lv_at hl 3 rfl) ?_
                                refine zald hC hK hR (ct_m_present G _ _) (nI_T n4 (by omega)) (by omega) (by omega) (Int.toNat_natCast _) dX10_closes_584 ?_
                                have hb5 := (show KM s4 from hi0_557).2.2.1 n4
                                refine zast hC hK hG hR hS (fun _ => ct_m_hasX G _ _) (nI_T _ (by omega)) (by omega) (by omega) (Int.toNat_natCast _) (by first | assumption | exact Or.inl rfl | exact Or.inr rfl) dX10_closes_585 (fun s_9 es_10 H locs hR hS => ?_)
                                have L_636 : ∀ (s4b : SI), (KM s4b) → (MRel (fun k => (41 ≤ k ∧ k ≤ 46 ∧ k ≠ 42 ∧ k ≠ 43) ∨ (52 ≤ k ∧ k ≤ 69) ∨ k = 71) (fun j => j = 37 ∨ j = 41 ∨ j = 43 ∨ j = 44) σ s4b) → ∀ (H : Heap) (locs : List Loc) (ls : Array Slot), RepH G s4b t4 H → va_S A s.heap H locs → lv_has ls 17 [(0, .ref (G.2.1 35)), (1, .int ra), (2, .int x2), (13, .int (nI n4))] → W p l e (rmD 6) s m args below meth c H locs 0 0 (MQ below (va_Qi (po4_X10_closes σ τ ra rq) (BU G) A) args s 0 0 A) (F0 m 636 ls []) := by
                                  intro s4b hi0_636 hi1_636 H locs ls hR hS hl
                                  refine lv_iinc (v := nI (n4 + 1)) (lv' := [(13, .int (nI (n4 + 1))), (0, .ref (G.2.1 35)), (1, .int ra), (2, .int x2)]) hC.x hC.b dX10_closes_636 hl (k := 3) rfl (nI_succ _).symm (by decide) rfl (fun ls hl => ?_)
                                  refine lv_goto (tgt := 557) hC.x hC.b dX10_closes_639 (by decide) ?_
                                  exact ih_557 (n4 + 1) s4b t4 (by omega) (by exact hi0_636) (by first | omega | assumption) hi1_636 _ _ _ hR hS (lv_sub hl [1, 2, 3, 0] rfl)
                                refine lv_aload_n hC.x hC.b dX10_closes_586 rfl (lv_at hl 0 rfl) ?_
                                refine rget hC hK hR (ct_model G _ _) rfl uin_X10 17 (by decide) TF_X10_62 rfl dX10_closes_587 ?_
                                refine lv_aload_n hC.x hC.b dX10_closes_590 rfl (lv_at hl 0 rfl) ?_
                                refine lv_aload_n hC.x hC.b dX10_closes_591 rfl (lv_at hl 0 rfl) ?_
                                refine rget hC hK hR (ct_model G _ _) rfl uin_X10 29 (by decide) TF_X10_137 rfl dX10_closes_592 ?_
                                have rd_11 : (s_9 35 29).toInt = (σ 35 29).toInt := congrArg Int32.toInt (Eq.trans (show s_9 35 29 = s4 35 29 from (by rw [es_10]; exact up2_o (by omega))) (show s4 35 29 = σ 35 29 from hi2_557.2 29 (by first | omega | (dsimp only; omega))))
                                refine lv_iload hC.x hC.b dX10_closes_595 (lv_at hl 3 rfl) ?_
                                have av_12 : (nI n4).toInt = (n4 : Int) := (nI_T n4 (by omega))
                                refine goip (runV (As := [.int (s_9 35 29), .int (nI n4)]) (rest := [.ref (G.2.1 53)]) hC hK hR hl.1 (c_X10_at l hG s_9 t4 (s_9 35 29) (((s_9 35 29).toInt).toNat) (by first | rfl | (rw [show (s_9 35 29).toInt = (s_9 35 29).toInt from rfl]; done) | (rw [show (s_9 35 29).toInt = (s_9 35 29).toInt from rfl]; exact rfl)) (nI n4) n4 (by first | rfl | (rw [show (nI n4).toInt = (n4 : Int) from (nI_T n4 (by omega))]; done) | (rw [show (nI n4).toInt = (n4 : Int) from (nI_T n4 (by omega))]; exact (Int.toNat_natCast _))) (by omega) (by omega)) (call_b hC.ts TC_X10_at TN_X10 TM_X10_140 hd_X10_at ⟨Nat.le_of_ble_eq_true rfl, Nat.le_of_ble_eq_true rfl⟩) TI_X10_at TS_X10_at (ct_model G _ _) rfl rfl rfl (Nat.le_of_ble_eq_true rfl) dX10_closes_597 ⟨Nat.le_of_ble_eq_true rfl, Nat.le_of_ble_eq_true rfl⟩) hS (fun v_13 H locs w_14 hR hS => ?_)
                                subst w_14
                                refine lv_aload_n hC.x hC.b dX10_closes_600 rfl (lv_at hl 0 rfl) ?_
                                refine rget hC hK hR (ct_model G _ _) rfl uin_X10 48 (by decide) TF_X10_126 rfl dX10_closes_601 ?_
                                refine lv_iload hC.x hC.b dX10_closes_604 (lv_at hl 3 rfl) ?_
                                refine zald hC hK hR (ct_m_present G _ _) (nI_T n4 (by omega)) (by omega) (by omega) (Int.toNat_natCast _) dX10_closes_606 ?_
                                have rd_15 : (s_9 71 n4).toInt = (s4 71 n4).toInt := congrArg Int32.toInt (show s_9 71 n4 = s4 71 n4 from (by rw [es_10]; exact up2_o (by omega)))
                                refine bz_eq (tgt := 634) (a := (s_9 71 n4).toInt) (b := 0) hC.x hC.b rfl rfl dX10_closes_607 (by decide) (fun c_16 => ?_) (fun c_16 => ?_)
                                · skip
                                  refine lv_iconst (v := 0) hC.x hC.b dX10_closes_634 (by decide) ?_
                                  refine zast hC hK hG hR hS (fun _ => ct_m_hasF G _ _) (nI_T _ (by omega)) (by omega) (by omega) (Int.toNat_natCast _) (Or.inl rfl) dX10_closes_635 (fun s_17 es_18 H locs hR hS => ?_)
                                  exact L_636 s_17 (by exact (by rw [es_18]; exact KM.up (by rw [es_10]; exact KM.up hi0_557 (by omega)) (by omega))) (by rw [es_18]; exact MRel.up ((by rw [es_10]; exact MRel.up (hi2_557) (by omega) (by first | omega | (dsimp only; omega)))) (by omega) (by first | omega | (dsimp only; omega))) _ _ _ hR hS (lv_sub hl [0, 1, 2, 3] rfl)
                                · skip
                                  refine lv_aload_n hC.x hC.b dX10_closes_610 rfl (lv_at hl 0 rfl) ?_
                                  refine rget hC hK hR (ct_model G _ _) rfl uin_X10 19 (by decide) TF_X10_68 rfl dX10_closes_611 ?_
                                  refine lv_aload_n hC.x hC.b dX10_closes_614 rfl (lv_at hl 0 rfl) ?_
                                  refine lv_aload_n hC.x hC.b dX10_closes_615 rfl (lv_at hl 0 rfl) ?_
                                  refine rget hC hK hR (ct_model G _ _) rfl uin_X10 29 (by decide) TF_X10_137 rfl dX10_closes_616 ?_
                                  have rd_19 : (s_9 35 29).toInt = (σ 35 29).toInt := congrArg Int32.toInt (Eq.trans (show s_9 35 29 = s4 35 29 from (by rw [es_10]; exact up2_o (by omega))) (show s4 35 29 = σ 35 29 from hi2_557.2 29 (by first | omega | (dsimp only; omega))))
                                  refine lv_iload hC.x hC.b dX10_closes_619 (lv_at hl 3 rfl) ?_
                                  have av_20 : (nI n4).toInt = (n4 : Int) := (nI_T n4 (by omega))
                                  refine goip (runV (As := [.int (s_9 35 29), .int (nI n4)]) (rest := [.ref (G.2.1 55), .int (nI (24 * (((s_9 35 29).toInt).toNat) + n4)), .ref (G.2.1 53)]) hC hK hR hl.1 (c_X10_at l hG s_9 t4 (s_9 35 29) (((s_9 35 29).toInt).toNat) (by first | rfl | (rw [show (s_9 35 29).toInt = (s_9 35 29).toInt from rfl]; done) | (rw [show (s_9 35 29).toInt = (s_9 35 29).toInt from rfl]; exact rfl)) (nI n4) n4 (by first | rfl | (rw [show (nI n4).toInt = (n4 : Int) from (nI_T n4 (by omega))]; done) | (rw [show (nI n4).toInt = (n4 : Int) from (nI_T n4 (by omega))]; exact (Int.toNat_natCast _))) (by omega) (by omega)) (call_b hC.ts TC_X10_at TN_X10 TM_X10_140 hd_X10_at ⟨Nat.le_of_ble_eq_true rfl, Nat.le_of_ble_eq_true rfl⟩) TI_X10_at TS_X10_at (ct_model G _ _) rfl rfl rfl (Nat.le_of_ble_eq_true rfl) dX10_closes_621 ⟨Nat.le_of_ble_eq_true rfl, Nat.le_of_ble_eq_true rfl⟩) hS (fun v_21 H locs w_22 hR hS => ?_)
                                  subst w_22
                                  refine ald hC hK hR (ct_m_fs G _ _) (nI_T _ (by omega)) (by omega) (by omega) (Int.toNat_natCast _) dX10_closes_624 ?_
                                  have rd_23 : (s_9 55 (24 * (((s_9 35 29).toInt).toNat) + n4)).toInt = (s4 55 (24 * (((s_9 35 29).toInt).toNat) + n4)).toInt := congrArg Int32.toInt (show s_9 55 (24 * (((s_9 35 29).toInt).toNat) + n4) = s4 55 (24 * (((s_9 35 29).toInt).toNat) + n4) from (by rw [es_10]; exact up2_o (by omega)))
                                  refine lv_ldc hC.x hC.b hC.ow (hC.ts _ TK_X10_203) dX10_closes_625 ?_
                                  refine bi_eq (tgt := 634) (a := (s_9 55 (24 * (((s_9 35 29).toInt).toNat) + n4)).toInt) (b := 2000000000) hC.x hC.b rfl rfl dX10_closes_627 (by decide) (fun c_24 => ?_) (fun c_24 => ?_)
                                  · skip
                                    refine lv_iconst (v := 0) hC.x hC.b dX10_closes_634 (by decide) ?_
                                    refine zast hC hK hG hR hS (fun _ => ct_m_hasF G _ _) (nI_T _ (by omega)) (by omega) (by omega) (Int.toNat_natCast _) (Or.inl rfl) dX10_closes_635 (fun s_25 es_26 H locs hR hS => ?_)
                                    exact L_636 s_25 (by exact (by rw [es_26]; exact KM.up (by rw [es_10]; exact KM.up hi0_557 (by omega)) (by omega))) (by rw [es_26]; exact MRel.up ((by rw [es_10]; exact MRel.up (hi2_557) (by omega) (by first | omega | (dsimp only; omega)))) (by omega) (by first | omega | (dsimp only; omega))) _ _ _ hR hS (lv_sub hl [0, 1, 2, 3] rfl)
                                  · skip
                                    refine lv_iconst (v := 1) hC.x hC.b dX10_closes_630 (by decide) ?_
                                    refine lv_goto (tgt := 635) hC.x hC.b dX10_closes_631 (by decide) ?_
                                    refine zast hC hK hG hR hS (fun _ => ct_m_hasF G _ _) (nI_T _ (by omega)) (by omega) (by omega) (Int.toNat_natCast _) (Or.inr rfl) dX10_closes_635 (fun s_27 es_28 H locs hR hS => ?_)
                                    exact L_636 s_27 (by exact (by rw [es_28]; exact KM.up (by rw [es_10]; exact KM.up hi0_557 (by omega)) (by omega))) (by rw [es_28]; exact MRel.up ((by rw [es_10]; exact MRel.up (hi2_557) (by omega) (by first | omega | (dsimp only; omega)))) (by omega) (by first | omega | (dsimp only; omega))) _ _ _ hR hS (lv_sub hl [0, 1, 2, 3] rfl)
                          exact L_557 _ 0 s3 t3 (Nat.lt_succ_self _) (by exact hi0_403) (by first | omega | assumption) hi2_403 _ _ _ hR hS (lv_sub hl [1, 2, 3, 0] rfl)
                        · skip
                          have L_548 : ∀ (s3c : SI) (t3c : SL), (KM s3c) → (MRel (fun k => (41 ≤ k ∧ k ≤ 46 ∧ k ≠ 42 ∧ k ≠ 43) ∨ (52 ≤ k ∧ k ≤ 69) ∨ k = 71) (fun j => j = 37 ∨ j = 41 ∨ j = 43 ∨ j = 44) σ s3c) → ∀ (H : Heap) (locs : List Loc) (ls : Array Slot), RepH G s3c t3c H → va_S A s.heap H locs → lv_has ls 17 [(0, .ref (G.2.1 35)), (1, .int ra), (2, .int x2), (11, .long x11), (13, .int (nI n3))] → W p l e (rmD 6) s m args below meth c H locs 0 0 (MQ below (va_Qi (po4_X10_closes σ τ ra rq) (BU G) A) args s 0 0 A) (F0 m 548 ls []) := by
                            intro s3c t3c hi0_548 hi1_548 H locs ls hR hS hl
                            refine lv_iinc (v := nI (n3 + 1)) (lv' := [(13, .int (nI (n3 + 1))), (0, .ref (G.2.1 35)), (1, .int ra), (2, .int x2), (11, .long x11)]) hC.x hC.b dX10_closes_548 hl (k := 4) rfl (nI_succ _).symm (by decide) rfl (fun ls hl => ?_)
                            refine lv_goto (tgt := 403) hC.x hC.b dX10_closes_551 (by decide) ?_
                            exact ih_403 (n3 + 1) s3c t3c (by omega) (by exact hi0_548) (by first | omega | assumption) hi1_548 _ _ _ hR hS (lv_sub hl [1, 2, 3, 4, 0] rfl)
                          refine lv_aload_n hC.x hC.b dX10_closes_410 rfl (lv_at hl 0 rfl) ?_
                          refine rget hC hK hR (ct_model G _ _) rfl uin_X10 48 (by decide) TF_X10_126 rfl dX10_closes_411 ?_
                          refine lv_iload hC.x hC.b dX10_closes_414 (lv_at hl 4 rfl) ?_
                          refine zald hC hK hR (ct_m_present G _ _) (nI_T n3 (by omega)) (by omega) (by omega) (Int.toNat_natCast _) dX10_closes_416 ?_
                          refine bz_ne (tgt := 423) (a := (s3 71 n3).toInt) (b := 0) hC.x hC.b rfl rfl dX10_closes_417 (by decide) (fun c_29 => ?_) (fun c_29 => ?_)
                          · skip
                            refine lv_aload_n hC.x hC.b dX10_closes_423 rfl (lv_at hl 0 rfl) ?_
                            refine lv_aload_n hC.x hC.b dX10_closes_424 rfl (lv_at hl 0 rfl) ?_
                            refine rget hC hK hR (ct_model G _ _) rfl uin_X10 29 (by decide) TF_X10_137 rfl dX10_closes_425 ?_
                            have rd_30 : (s3 35 29).toInt = (σ 35 29).toInt := congrArg Int32.toInt (show s3 35 29 = σ 35 29 from hi2_403.2 29 (by first | omega | (dsimp only; omega)))
                            refine lv_iload hC.x hC.b dX10_closes_428 (lv_at hl 4 rfl) ?_
                            have av_31 : (nI n3).toInt = (n3 : Int) := (nI_T n3 (by omega))
                            refine goip (runV (As := [.int (s3 35 29), .int (nI n3)]) (rest := []) hC hK hR hl.1 (c_X10_at l hG s3 t3 (s3 35 29) (((s3 35 29).toInt).toNat) (by first | rfl | (rw [show (s3 35 29).toInt = (s3 35 29).toInt from rfl]; done) | (rw [show (s3 35 29).toInt = (s3 35 29).toInt from rfl]; exact rfl)) (nI n3) n3 (by first | rfl | (rw [show (nI n3).toInt = (n3 : Int) from (nI_T n3 (by omega))]; done) | (rw [show (nI n3).toInt = (n3 : Int) from (nI_T n3 (by omega))]; exact (Int.toNat_natCast _))) (by omega) (by omega)) (call_b hC.ts TC_X10_at TN_X10 TM_X10_140 hd_X10_at ⟨Nat.le_of_ble_eq_true rfl, Nat.le_of_ble_eq_true rfl⟩) TI_X10_at TS_X10_at (ct_model G _ _) rfl rfl rfl (Nat.le_of_ble_eq_true rfl) dX10_closes_430 ⟨Nat.le_of_ble_eq_true rfl, Nat.le_of_ble_eq_true rfl⟩) hS (fun v_32 H locs w_33 hR hS => ?_)
                            subst w_33
                            refine lv_topi (fun x_34 ex_35 => ?_)
                            have pr_36 : x_34.toInt = (((24 * (((s3 35 29).toInt).toNat) + n3) : Nat) : Int) := by rw [ex_35]; exact (nI_T _ (by omega))
                            refine lv_istore (lv' := [(14, .int x_34), (0, .ref (G.2.1 35)), (1, .int ra), (2, .int x2), (11, .long x11), (13, .int (nI n3))]) hC.x hC.b dX10_closes_433 hl (by decide) rfl (fun ls hl => ?_)
                            refine lv_aload_n hC.x hC.b dX10_closes_435 rfl (lv_at hl 1 rfl) ?_
                            refine rget hC hK hR (ct_model G _ _) rfl uin_X10 18 (by decide) TF_X10_65 rfl dX10_closes_436 ?_
                            refine lv_iload hC.x hC.b dX10_closes_439 (lv_at hl 0 rfl) ?_
                            refine lv_lload hC.x hC.b dX10_closes_441 (lv_at hl 4 rfl) ?_
                            refine lv_aload_n hC.x hC.b dX10_closes_443 rfl (lv_at hl 1 rfl) ?_
                            refine rget hC hK hR (ct_model G _ _) rfl uin_X10 22 (by decide) TF_X10_77 rfl dX10_closes_444 ?_
                            refine lv_iload hC.x hC.b dX10_closes_447 (lv_at hl 0 rfl) ?_
                            refine ald hC hK hR (ct_m_ds G _ _) pr_36 (by omega) (by omega) rfl dX10_closes_449 ?_
                            refine lv_i2l hC.x hC.b dX10_closes_450 rfl ?_
                            refine lv_lsub hC.x hC.b dX10_closes_451 ?_
                            refine lv_l2i hC.x hC.b dX10_closes_452 rfl ?_
                            refine ast hC hK hG hR hS (fun _ => ct_m_xs G _ _) pr_36 (by omega) (by omega) rfl dX10_closes_453 (fun s_37 es_38 H locs hR hS => ?_)
                            refine lv_aload_n hC.x hC.b dX10_closes_454 rfl (lv_at hl 1 rfl) ?_
                            refine rget hC hK hR (ct_model G _ _) rfl uin_X10 18 (by decide) TF_X10_65 rfl dX10_closes_455 ?_
                            refine lv_iload hC.x hC.b dX10_closes_458 (lv_at hl 0 rfl) ?_
                            refine ald hC hK hR (ct_m_xs G _ _) pr_36 (by omega) (by omega) rfl dX10_closes_460 ?_
                            have rd_39 : (s_37 54 ((((24 * (((s3 35 29).toInt).toNat) + n3) : Nat) : Int).toNat)).toInt = ((x11 - (s3 58 ((((24 * (((s3 35 29).toInt).toNat) + n3) : Nat) : Int).toNat)).toInt64).toInt32).toInt := congrArg Int32.toInt (show s_37 54 ((((24 * (((s3 35 29).toInt).toNat) + n3) : Nat) : Int).toNat) = ((x11 - (s3 58 ((((24 * (((s3 35 29).toInt).toNat) + n3) : Nat) : Int).toNat)).toInt64).toInt32) from (by rw [es_38]; exact up2_s))
                            refine lv_i2l hC.x hC.b dX10_closes_461 rfl ?_
                            refine lv_aload_n hC.x hC.b dX10_closes_462 rfl (lv_at hl 1 rfl) ?_
                            refine rget hC hK hR (ct_model G _ _) rfl uin_X10 19 (by decide) TF_X10_68 rfl dX10_closes_463 ?_
                            refine lv_iload hC.x hC.b dX10_closes_466 (lv_at hl 0 rfl) ?_
                            refine ald hC hK hR (ct_m_fs G _ _) pr_36 (by omega) (by omega) rfl dX10_closes_468 ?_
                            have rd_40 : (s_37 55 ((((24 * (((s3 35 29).toInt).toNat) + n3) : Nat) : Int).toNat)).toInt = (s3 55 ((((24 * (((s3 35 29).toInt).toNat) + n3) : Nat) : Int).toNat)).toInt := congrArg Int32.toInt (show s_37 55 ((((24 * (((s3 35 29).toInt).toNat) + n3) : Nat) : Int).toNat) = s3 55 ((((24 * (((s3 35 29).toInt).toNat) + n3) : Nat) : Int).toNat) from (by rw [es_38]; exact up2_o (by omega)))
                            refine lv_i2l hC.x hC.b dX10_closes_469 rfl ?_
                            refine lv_lsub hC.x hC.b dX10_closes_470 ?_
                            refine lv_topl (fun x_41 ex_42 => ?_)
                            refine lv_lstore (lv' := [(15, .long x_41), (14, .int x_34), (0, .ref (G.2.1 35)), (1, .int ra), (2, .int x2), (11, .long x11), (13, .int (nI n3))]) hC.x hC.b dX10_closes_471 hl (by decide) rfl (fun ls hl => ?_)
                            have L_513 : ∀ (s3b : SI), (KM s3b) → (MRel (fun k => (41 ≤ k ∧ k ≤ 46 ∧ k ≠ 42 ∧ k ≠ 43) ∨ (52 ≤ k ∧ k ≤ 69) ∨ k = 71) (fun j => j = 37 ∨ j = 41 ∨ j = 43 ∨ j = 44) σ s3b) → ∀ (H : Heap) (locs : List Loc) (ls : Array Slot), RepH G s3b t3 H → va_S A s.heap H locs → lv_has ls 17 [(0, .ref (G.2.1 35)), (1, .int ra), (2, .int x2), (11, .long x11), (13, .int (nI n3)), (14, .int x_34)] → W p l e (rmD 6) s m args below meth c H locs 0 0 (MQ below (va_Qi (po4_X10_closes σ τ ra rq) (BU G) A) args s 0 0 A) (F0 m 513 ls []) := by
                              intro s3b hi0_513 hi1_513 H locs ls hR hS hl
                              refine lv_aload_n hC.x hC.b dX10_closes_513 rfl (lv_at hl 0 rfl) ?_
                              refine rget hC hK hR (ct_model G _ _) rfl uin_X10 19 (by decide) TF_X10_68 rfl dX10_closes_514 ?_
                              refine lv_iload hC.x hC.b dX10_closes_517 (lv_at hl 5 rfl) ?_
                              refine ald hC hK hR (ct_m_fs G _ _) pr_36 (by omega) (by omega) rfl dX10_closes_519 ?_
                              refine lv_ldc hC.x hC.b hC.ow (hC.ts _ TK_X10_203) dX10_closes_520 ?_
                              refine bi_eq (tgt := 548) (a := (s3b 55 ((((24 * (((s3 35 29).toInt).toNat) + n3) : Nat) : Int).toNat)).toInt) (b := 2000000000) hC.x hC.b rfl rfl dX10_closes_522 (by decide) (fun c_43 => ?_) (fun c_43 => ?_)
                              · skip
                                exact L_548 s3b t3 (by exact hi0_513) hi1_513 _ _ _ hR hS (lv_sub hl [0, 1, 2, 3, 4] rfl)
                              · skip
                                refine lv_aload_n hC.x hC.b dX10_closes_525 rfl (lv_at hl 0 rfl) ?_
                                refine rget hC hK hR (ct_model G _ _) rfl uin_X10 5 (by decide) TF_X10_26 rfl dX10_closes_526 ?_
                                refine lv_iload hC.x hC.b dX10_closes_529 (lv_at hl 4 rfl) ?_
                                refine zald hC hK hR (ct_m_isOut G _ _) (nI_T n3 (by omega)) (by omega) (by omega) (Int.toNat_natCast _) dX10_closes_531 ?_
                                refine bz_ne (tgt := 548) (a := (s3b 41 n3).toInt) (b := 0) hC.x hC.b rfl rfl dX10_closes_532 (by decide) (fun c_44 => ?_) (fun c_44 => ?_)
                                · skip
                                  exact L_548 s3b t3 (by exact hi0_513) hi1_513 _ _ _ hR hS (lv_sub hl [0, 1, 2, 3, 4] rfl)
                                · skip
                                  refine lv_aload_n hC.x hC.b dX10_closes_535 rfl (lv_at hl 0 rfl) ?_
                                  refine lv_iload hC.x hC.b dX10_closes_536 (lv_at hl 4 rfl) ?_
                                  refine lv_aload_n hC.x hC.b dX10_closes_538 rfl (lv_at hl 0 rfl) ?_
                                  refine rget hC hK hR (ct_model G _ _) rfl uin_X10 20 (by decide) TF_X10_71 rfl dX10_closes_539 ?_
                                  refine lv_iload hC.x hC.b dX10_closes_542 (lv_at hl 5 rfl) ?_
                                  refine ald hC hK hR (ct_m_ms G _ _) pr_36 (by omega) (by omega) rfl dX10_closes_544 ?_
                                  have av_45 : (nI n3).toInt = (n3 : Int) := (nI_T n3 (by omega))
                                  have rd_46 : (s3b 35 29).toInt = (σ 35 29).toInt := congrArg Int32.toInt (show s3b 35 29 = σ 35 29 from hi1_513.2 29 (by first | omega | (dsimp only; omega)))
                                  refine gov (runV (As := [.int (nI n3), .int (s3b 56 ((((24 * (((s3 35 29).toInt).toNat) + n3) : Nat) : Int).toNat))]) (rest := []) hC hK hR hl.1 (c_X10_looks l hG s3b t3 (nI n3) n3 (by first | rfl | (rw [show (nI n3).toInt = (n3 : Int) from (nI_T n3 (by omega))]; done) | (rw [show (nI n3).toInt = (n3 : Int) from (nI_T n3 (by omega))]; exact (Int.toNat_natCast _))) (s3b 56 ((((24 * (((s3 35 29).toInt).toNat) + n3) : Nat) : Int).toNat)) (by first | assumption | omega) (by omega) (by exact hi0_513)) (call_b hC.ts TC_X10_looks TN_X10 TM_X10_244 hd_X10_looks ⟨Nat.le_of_ble_eq_true rfl, Nat.le_of_ble_eq_true rfl⟩) TI_X10_looks TS_X10_looks (ct_model G _ _) rfl rfl rfl (Nat.le_of_ble_eq_true rfl) dX10_closes_545 ⟨Nat.le_of_ble_eq_true rfl, Nat.le_of_ble_eq_true rfl⟩) hS (fun s_49 t_50 H locs w_48 hR hS => ?_)
                                  try dsimp only [po_X10_looks] at w_48
                                  obtain ⟨f_51, f_52⟩ := w_48
                                  exact L_548 s_49 t_50 (by exact f_52) (MRel.tr hi1_513 (MRel.mo f_51 (by intro k q; first | omega | (dsimp only at q ⊢; omega) | exact q.elim) (by intro j q; first | omega | (dsimp only at q ⊢; omega) | exact q.elim))) _ _ _ hR hS (lv_sub hl [0, 1, 2, 3, 4] rfl)
                            refine lv_aload_n hC.x hC.b dX10_closes_473 rfl (lv_at hl 2 rfl) ?_
                            refine rget hC hK hR (ct_model G _ _) rfl uin_X10 20 (by decide) TF_X10_71 rfl dX10_closes_474 ?_
                            refine lv_iload hC.x hC.b dX10_closes_477 (lv_at hl 1 rfl) ?_
                            refine lv_lload hC.x hC.b dX10_closes_479 (lv_at hl 0 rfl) ?_
                            refine lv_ldc2 hC.x hC.b hC.ow (hC.ts _ TK_X10_240) dX10_closes_481 ?_
                            refine bl_le (tgt := 494) (a := x_41.toInt) (b := 30000) hC.x hC.b rfl rfl dX10_closes_484 dX10_closes_485 (by decide) (fun c_53 => ?_) (fun c_53 => ?_)
                            · skip
                              refine lv_lload hC.x hC.b dX10_closes_494 (lv_at hl 0 rfl) ?_
                              refine lv_ldc2 hC.x hC.b hC.ow (hC.ts _ TK_X10_242) dX10_closes_496 ?_
                              refine bl_ge (tgt := 509) (a := x_41.toInt) (b := (-30000)) hC.x hC.b rfl rfl dX10_closes_499 dX10_closes_500 (by decide) (fun c_54 => ?_) (fun c_54 => ?_)
                              · skip
                                refine lv_lload hC.x hC.b dX10_closes_509 (lv_at hl 0 rfl) ?_
                                refine lv_l2i hC.x hC.b dX10_closes_511 rfl ?_
                                have pr_55 : x_41.toInt32.toInt = x_41.toInt := l2iI rfl (by omega) (by omega)
                                refine ast hC hK hG hR hS (fun _ => ct_m_ms G _ _) pr_36 (by omega) (by omega) rfl dX10_closes_512 (fun s_56 es_57 H locs hR hS => ?_)
                                exact L_513 s_56 (by exact (by rw [es_57]; exact KM.u56 (by rw [es_38]; exact KM.up hi0_403 (by omega)) (by first | omega | decide))) (by rw [es_57]; exact MRel.up ((by rw [es_38]; exact MRel.up (hi2_403) (by omega) (by first | omega | (dsimp only; omega)))) (by omega) (by first | omega | (dsimp only; omega))) _ _ _ hR hS (lv_sub hl [2, 3, 4, 5, 6, 1] rfl)
                              · skip
                                refine lv_sipush (v := (-30000)) hC.x hC.b dX10_closes_503 (by decide) ?_
                                refine lv_goto (tgt := 512) hC.x hC.b dX10_closes_506 (by decide) ?_
                                refine ast hC hK hG hR hS (fun _ => ct_m_ms G _ _) pr_36 (by omega) (by omega) rfl dX10_closes_512 (fun s_58 es_59 H locs hR hS => ?_)
                                exact L_513 s_58 (by exact (by rw [es_59]; exact KM.u56 (by rw [es_38]; exact KM.up hi0_403 (by omega)) (by first | omega | decide))) (by rw [es_59]; exact MRel.up ((by rw [es_38]; exact MRel.up (hi2_403) (by omega) (by first | omega | (dsimp only; omega)))) (by omega) (by first | omega | (dsimp only; omega))) _ _ _ hR hS (lv_sub hl [2, 3, 4, 5, 6, 1] rfl)
                            · skip
                              refine lv_sipush (v := 30000) hC.x hC.b dX10_closes_488 (by decide) ?_
                              refine lv_goto (tgt := 512) hC.x hC.b dX10_closes_491 (by decide) ?_
                              refine ast hC hK hG hR hS (fun _ => ct_m_ms G _ _) pr_36 (by omega) (by omega) rfl dX10_closes_512 (fun s_60 es_61 H locs hR hS => ?_)
                              exact L_513 s_60 (by exact (by rw [es_61]; exact KM.u56 (by rw [es_38]; exact KM.up hi0_403 (by omega)) (by first | omega | decide))) (by rw [es_61]; exact MRel.up ((by rw [es_38]; exact MRel.up (hi2_403) (by omega) (by first | omega | (dsimp only; omega)))) (by omega) (by first | omega | (dsimp only; omega))) _ _ _ hR hS (lv_sub hl [2, 3, 4, 5, 6, 1] rfl)
                          · skip
                            refine lv_goto (tgt := 548) hC.x hC.b dX10_closes_420 (by decide) ?_
                            exact L_548 s3 t3 (by exact hi0_403) hi2_403 _ _ _ hR hS (lv_sub hl [0, 1, 2, 3, 4] rfl)
                    exact L_403 _ 0 s5 t2 (Nat.lt_succ_self _) (by exact hi0_400) (by first | omega | assumption) hi1_400 _ _ _ hR hS (lv_sub hl [1, 2, 3, 4, 0] rfl)
                  refine lv_aload_n hC.x hC.b dX10_closes_349 rfl (lv_at hl 0 rfl) ?_
                  refine rget hC hK hR (ct_model G _ _) rfl uin_X10 24 (by decide) TF_X10_83 rfl dX10_closes_350 ?_
                  refine lv_aload_n hC.x hC.b dX10_closes_353 rfl (lv_at hl 0 rfl) ?_
                  refine rget hC hK hR (ct_model G _ _) rfl uin_X10 29 (by decide) TF_X10_137 rfl dX10_closes_354 ?_
                  have rd_62 : (s2 35 29).toInt = (σ 35 29).toInt := congrArg Int32.toInt (show s2 35 29 = σ 35 29 from hi2_203.2 29 (by first | omega | (dsimp only; omega)))
                  refine lv_iload_n hC.x hC.b dX10_closes_357 rfl (lv_at hl 2 rfl) ?_
                  refine ast hC hK hG hR hS (fun _ => ct_m_presents G _ _) rfl (by omega) (by omega) rfl dX10_closes_358 (fun s_63 es_64 H locs hR hS => ?_)
                  refine lv_aload_n hC.x hC.b dX10_closes_359 rfl (lv_at hl 0 rfl) ?_
                  refine rget hC hK hR (ct_model G _ _) rfl uin_X10 28 (by decide) TF_X10_95 rfl dX10_closes_360 ?_
                  refine lv_aload_n hC.x hC.b dX10_closes_363 rfl (lv_at hl 0 rfl) ?_
                  refine rget hC hK hR (ct_model G _ _) rfl uin_X10 29 (by decide) TF_X10_137 rfl dX10_closes_364 ?_
                  have rd_65 : (s_63 35 29).toInt = (σ 35 29).toInt := congrArg Int32.toInt (Eq.trans (show s_63 35 29 = s2 35 29 from (by rw [es_64]; exact up2_o (by omega))) (show s2 35 29 = σ 35 29 from hi2_203.2 29 (by first | omega | (dsimp only; omega))))
                  refine lv_lload hC.x hC.b dX10_closes_367 (lv_at hl 3 rfl) ?_
                  refine lv_l2i hC.x hC.b dX10_closes_369 rfl ?_
                  refine ast hC hK hG hR hS (fun _ => ct_m_sums G _ _) rfl (by omega) (by omega) rfl dX10_closes_370 (fun s_66 es_67 H locs hR hS => ?_)
                  refine lv_aload_n hC.x hC.b dX10_closes_371 rfl (lv_at hl 0 rfl) ?_
                  refine rget hC hK hR (ct_model G _ _) rfl uin_X10 25 (by decide) TF_X10_86 rfl dX10_closes_372 ?_
                  refine lv_aload_n hC.x hC.b dX10_closes_375 rfl (lv_at hl 0 rfl) ?_
                  refine rget hC hK hR (ct_model G _ _) rfl uin_X10 29 (by decide) TF_X10_137 rfl dX10_closes_376 ?_
                  have rd_68 : (s_66 35 29).toInt = (σ 35 29).toInt := congrArg Int32.toInt (Eq.trans (show s_66 35 29 = s_63 35 29 from (by rw [es_67]; exact up2_o (by omega))) (Eq.trans (show s_63 35 29 = s2 35 29 from (by rw [es_64]; exact up2_o (by omega))) (show s2 35 29 = σ 35 29 from hi2_203.2 29 (by first | omega | (dsimp only; omega)))))
                  refine lv_lload hC.x hC.b dX10_closes_379 (lv_at hl 3 rfl) ?_
                  refine lv_lconst (v := 0) hC.x hC.b dX10_closes_381 (by decide) ?_
                  refine bl_ne (tgt := 390) (a := x7.toInt) (b := 0) hC.x hC.b rfl rfl dX10_closes_382 dX10_closes_383 (by decide) (fun c_69 => ?_) (fun c_69 => ?_)
                  · skip
                    refine lv_lload hC.x hC.b dX10_closes_390 (lv_at hl 4 rfl) ?_
                    refine lv_lload hC.x hC.b dX10_closes_392 (lv_at hl 5 rfl) ?_
                    refine lv_lload hC.x hC.b dX10_closes_394 (lv_at hl 3 rfl) ?_
                    refine lv_lmul hC.x hC.b dX10_closes_396 ?_
                    refine lv_lsub hC.x hC.b dX10_closes_397 ?_
                    refine lv_l2i hC.x hC.b dX10_closes_398 rfl ?_
                    refine ast hC hK hG hR hS (fun _ => ct_m_rests G _ _) rfl (by omega) (by omega) rfl dX10_closes_399 (fun s_70 es_71 H locs hR hS => ?_)
                    exact L_400 s_70 (by exact (by rw [es_71]; exact KM.up (by rw [es_67]; exact KM.up (by rw [es_64]; exact KM.up hi0_203 (by omega)) (by omega)) (by omega))) (by rw [es_71]; exact MRel.up ((by rw [es_67]; exact MRel.up ((by rw [es_64]; exact MRel.up (hi2_203) (by omega) (by first | omega | (dsimp only; omega)))) (by omega) (by first | omega | (dsimp only; omega)))) (by omega) (by first | omega | (dsimp only; omega))) _ _ _ hR hS (lv_sub hl [0, 1, 2, 5] rfl)
                  · skip
                    refine lv_iconst (v := 0) hC.x hC.b dX10_closes_386 (by decide) ?_
                    refine lv_goto (tgt := 399) hC.x hC.b dX10_closes_387 (by decide) ?_
                    refine ast hC hK hG hR hS (fun _ => ct_m_rests G _ _) rfl (by omega) (by omega) rfl dX10_closes_399 (fun s_72 es_73 H locs hR hS => ?_)
                    exact L_400 s_72 (by exact (by rw [es_73]; exact KM.up (by rw [es_67]; exact KM.up (by rw [es_64]; exact KM.up hi0_203 (by omega)) (by omega)) (by omega))) (by rw [es_73]; exact MRel.up ((by rw [es_67]; exact MRel.up ((by rw [es_64]; exact MRel.up (hi2_203) (by omega) (by first | omega | (dsimp only; omega)))) (by omega) (by first | omega | (dsimp only; omega)))) (by omega) (by first | omega | (dsimp only; omega))) _ _ _ hR hS (lv_sub hl [0, 1, 2, 5] rfl)
                refine lv_lload hC.x hC.b dX10_closes_329 (lv_at hl 4 rfl) ?_
                refine lv_lconst (v := 0) hC.x hC.b dX10_closes_331 (by decide) ?_
                refine bl_ne (tgt := 340) (a := x7.toInt) (b := 0) hC.x hC.b rfl rfl dX10_closes_332 dX10_closes_333 (by decide) (fun c_74 => ?_) (fun c_74 => ?_)
                · skip
                  refine lv_lload hC.x hC.b dX10_closes_340 (lv_at hl 5 rfl) ?_
                  refine lv_lload hC.x hC.b dX10_closes_342 (lv_at hl 4 rfl) ?_
                  refine golp (runS (As := [.long x9, .long x7]) (rest := []) hC hK hR hl.1 (c_X10_downwards l hG s2 t2 x9 x7 (by omega)) (call_b hC.ts TC_X10_downwards TN_X10 TM_X10_192 hd_X10_downwards ⟨Nat.le_of_ble_eq_true rfl, Nat.le_of_ble_eq_true rfl⟩) TT_X10_downwards rfl rfl (Nat.le_of_ble_eq_true rfl) dX10_closes_344 ⟨Nat.le_of_ble_eq_true rfl, Nat.le_of_ble_eq_true rfl⟩) hS (fun v_75 H locs w_76 hR hS => ?_)
                  refine lv_lstore (lv' := [(11, .long v_75), (0, .ref (G.2.1 35)), (1, .int ra), (2, .int x2), (5, .long x5), (7, .long x7), (9, .long x9)]) hC.x hC.b dX10_closes_347 hl (by decide) rfl (fun ls hl => ?_)
                  exact L_349 v_75  _ _ _ hR hS (lv_sub hl [1, 2, 3, 5, 6, 0] rfl)
                · skip
                  refine lv_lconst (v := 0) hC.x hC.b dX10_closes_336 (by decide) ?_
                  refine lv_goto (tgt := 347) hC.x hC.b dX10_closes_337 (by decide) ?_
                  refine lv_lstore (lv' := [(11, .long (0 : Int64)), (0, .ref (G.2.1 35)), (1, .int ra), (2, .int x2), (5, .long x5), (7, .long x7), (9, .long x9)]) hC.x hC.b dX10_closes_347 hl (by decide) rfl (fun ls hl => ?_)
                  exact L_349 (0 : Int64)  _ _ _ hR hS (lv_sub hl [1, 2, 3, 5, 6, 0] rfl)
              · skip
                have L_323 : ∀ (y7 : Int64) (y9 : Int64) (s2c : SI), (KM s2c) → (MRel (fun k => (41 ≤ k ∧ k ≤ 46 ∧ k ≠ 42 ∧ k ≠ 43) ∨ (52 ≤ k ∧ k ≤ 69) ∨ k = 71) (fun j => j = 37 ∨ j = 41 ∨ j = 43 ∨ j = 44) σ s2c) → ∀ (H : Heap) (locs : List Loc) (ls : Array Slot), RepH G s2c t2 H → va_S A s.heap H locs → lv_has ls 17 [(0, .ref (G.2.1 35)), (1, .int ra), (2, .int x2), (5, .long x5), (7, .long y7), (9, .long y9), (11, .int (nI n2))] → W p l e (rmD 6) s m args below meth c H locs 0 0 (MQ below (va_Qi (po4_X10_closes σ τ ra rq) (BU G) A) args s 0 0 A) (F0 m 323 ls []) := by
                  intro y7 y9 s2c hi0_323 hi1_323 H locs ls hR hS hl
                  refine lv_iinc (v := nI (n2 + 1)) (lv' := [(11, .int (nI (n2 + 1))), (0, .ref (G.2.1 35)), (1, .int ra), (2, .int x2), (5, .long x5), (7, .long y7), (9, .long y9)]) hC.x hC.b dX10_closes_323 hl (k := 6) rfl (nI_succ _).symm (by decide) rfl (fun ls hl => ?_)
                  refine lv_goto (tgt := 203) hC.x hC.b dX10_closes_326 (by decide) ?_
                  exact ih_203 y7 y9 (n2 + 1) s2c t2 (by omega) (by exact hi0_323) (by first | omega | assumption) hi1_323 _ _ _ hR hS (lv_sub hl [1, 2, 3, 4, 5, 6, 0] rfl)
                refine lv_aload_n hC.x hC.b dX10_closes_210 rfl (lv_at hl 0 rfl) ?_
                refine rget hC hK hR (ct_model G _ _) rfl uin_X10 48 (by decide) TF_X10_126 rfl dX10_closes_211 ?_
                refine lv_iload hC.x hC.b dX10_closes_214 (lv_at hl 6 rfl) ?_
                refine zald hC hK hR (ct_m_present G _ _) (nI_T n2 (by omega)) (by omega) (by omega) (Int.toNat_natCast _) dX10_closes_216 ?_
                refine bz_ne (tgt := 223) (a := (s2 71 n2).toInt) (b := 0) hC.x hC.b rfl rfl dX10_closes_217 (by decide) (fun c_77 => ?_) (fun c_77 => ?_)
                · skip
                  refine lv_aload_n hC.x hC.b dX10_closes_223 rfl (lv_at hl 0 rfl) ?_
                  refine lv_aload_n hC.x hC.b dX10_closes_224 rfl (lv_at hl 0 rfl) ?_
                  refine rget hC hK hR (ct_model G _ _) rfl uin_X10 29 (by decide) TF_X10_137 rfl dX10_closes_225 ?_
                  have rd_78 : (s2 35 29).toInt = (σ 35 29).toInt := congrArg Int32.toInt (show s2 35 29 = σ 35 29 from hi2_203.2 29 (by first | omega | (dsimp only; omega)))
                  refine lv_iload hC.x hC.b dX10_closes_228 (lv_at hl 6 rfl) ?_
                  have av_79 : (nI n2).toInt = (n2 : Int) := (nI_T n2 (by omega))
                  refine goip (runV (As := [.int (s2 35 29), .int (nI n2)]) (rest := []) hC hK hR hl.1 (c_X10_at l hG s2 t2 (s2 35 29) (((s2 35 29).toInt).toNat) (by first | rfl | (rw [show (s2 35 29).toInt = (s2 35 29).toInt from rfl]; done) | (rw [show (s2 35 29).toInt = (s2 35 29).toInt from rfl]; exact rfl)) (nI n2) n2 (by first | rfl | (rw [show (nI n2).toInt = (n2 : Int) from (nI_T n2 (by omega))]; done) | (rw [show (nI n2).toInt = (n2 : Int) from (nI_T n2 (by omega))]; exact (Int.toNat_natCast _))) (by omega) (by omega)) (call_b hC.ts TC_X10_at TN_X10 TM_X10_140 hd_X10_at ⟨Nat.le_of_ble_eq_true rfl, Nat.le_of_ble_eq_true rfl⟩) TI_X10_at TS_X10_at (ct_model G _ _) rfl rfl rfl (Nat.le_of_ble_eq_true rfl) dX10_closes_230 ⟨Nat.le_of_ble_eq_true rfl, Nat.le_of_ble_eq_true rfl⟩) hS (fun v_80 H locs w_81 hR hS => ?_)
                  subst w_81
                  refine lv_topi (fun x_82 ex_83 => ?_)
                  have pr_84 : x_82.toInt = (((24 * (((s2 35 29).toInt).toNat) + n2) : Nat) : Int) := by rw [ex_83]; exact (nI_T _ (by omega))
                  refine lv_istore (lv' := [(12, .int x_82), (0, .ref (G.2.1 35)), (1, .int ra), (2, .int x2), (5, .long x5), (7, .long x7), (9, .long x9), (11, .int (nI n2))]) hC.x hC.b dX10_closes_233 hl (by decide) rfl (fun ls hl => ?_)
                  have L_269 : ∀ (s2b : SI), (KM s2b) → (MRel (fun k => (41 ≤ k ∧ k ≤ 46 ∧ k ≠ 42 ∧ k ≠ 43) ∨ (52 ≤ k ∧ k ≤ 69) ∨ k = 71) (fun j => j = 37 ∨ j = 41 ∨ j = 43 ∨ j = 44) σ s2b) → ∀ (H : Heap) (locs : List Loc) (ls : Array Slot), RepH G s2b t2 H → va_S A s.heap H locs → lv_has ls 17 [(0, .ref (G.2.1 35)), (1, .int ra), (2, .int x2), (5, .long x5), (7, .long x7), (9, .long x9), (11, .int (nI n2)), (12, .int x_82)] → W p l e (rmD 6) s m args below meth c H locs 0 0 (MQ below (va_Qi (po4_X10_closes σ τ ra rq) (BU G) A) args s 0 0 A) (F0 m 269 ls []) := by
                    intro s2b hi0_269 hi1_269 H locs ls hR hS hl
                    refine lv_lload hC.x hC.b dX10_closes_269 (lv_at hl 4 rfl) ?_
                    refine lv_aload_n hC.x hC.b dX10_closes_271 rfl (lv_at hl 0 rfl) ?_
                    refine rget hC hK hR (ct_model G _ _) rfl uin_X10 21 (by decide) TF_X10_74 rfl dX10_closes_272 ?_
                    refine lv_iload hC.x hC.b dX10_closes_275 (lv_at hl 7 rfl) ?_
                    refine ald hC hK hR (ct_m_ws G _ _) pr_84 (by omega) (by omega) rfl dX10_closes_277 ?_
                    refine lv_i2l hC.x hC.b dX10_closes_278 rfl ?_
                    refine lv_ladd hC.x hC.b dX10_closes_279 ?_
                    refine lv_topl (fun x_85 ex_86 => ?_)
                    refine lv_lstore (lv' := [(7, .long x_85), (0, .ref (G.2.1 35)), (1, .int ra), (2, .int x2), (5, .long x5), (9, .long x9), (11, .int (nI n2)), (12, .int x_82)]) hC.x hC.b dX10_closes_280 hl (by decide) rfl (fun ls hl => ?_)
                    refine lv_aload_n hC.x hC.b dX10_closes_282 rfl (lv_at hl 1 rfl) ?_
                    refine rget hC hK hR (ct_model G _ _) rfl uin_X10 21 (by decide) TF_X10_74 rfl dX10_closes_283 ?_
                    refine lv_iload hC.x hC.b dX10_closes_286 (lv_at hl 7 rfl) ?_
                    refine ald hC hK hR (ct_m_ws G _ _) pr_84 (by omega) (by omega) rfl dX10_closes_288 ?_
                    refine bz_le (tgt := 323) (a := (s2b 57 ((((24 * (((s2 35 29).toInt).toNat) + n2) : Nat) : Int).toNat)).toInt) (b := 0) hC.x hC.b rfl rfl dX10_closes_289 (by decide) (fun c_87 => ?_) (fun c_87 => ?_)
                    · skip
                      exact L_323 x_85 x9 s2b (by exact hi0_269) hi1_269 _ _ _ hR hS (lv_sub hl [1, 2, 3, 4, 0, 5, 6] rfl)
                    · skip
                      refine lv_lload hC.x hC.b dX10_closes_292 (lv_at hl 5 rfl) ?_
                      refine lv_aload_n hC.x hC.b dX10_closes_294 rfl (lv_at hl 1 rfl) ?_
                      refine rget hC hK hR (ct_model G _ _) rfl uin_X10 21 (by decide) TF_X10_74 rfl dX10_closes_295 ?_
                      refine lv_iload hC.x hC.b dX10_closes_298 (lv_at hl 7 rfl) ?_
                      refine ald hC hK hR (ct_m_ws G _ _) pr_84 (by omega) (by omega) rfl dX10_closes_300 ?_
                      refine lv_i2l hC.x hC.b dX10_closes_301 rfl ?_
                      refine lv_aload_n hC.x hC.b dX10_closes_302 rfl (lv_at hl 1 rfl) ?_
                      refine rget hC hK hR (ct_model G _ _) rfl uin_X10 19 (by decide) TF_X10_68 rfl dX10_closes_303 ?_
                      refine lv_iload hC.x hC.b dX10_closes_306 (lv_at hl 7 rfl) ?_
                      refine ald hC hK hR (ct_m_fs G _ _) pr_84 (by omega) (by omega) rfl dX10_closes_308 ?_
                      refine lv_i2l hC.x hC.b dX10_closes_309 rfl ?_
                      refine lv_aload_n hC.x hC.b dX10_closes_310 rfl (lv_at hl 1 rfl) ?_
                      refine rget hC hK hR (ct_model G _ _) rfl uin_X10 22 (by decide) TF_X10_77 rfl dX10_closes_311 ?_
                      refine lv_iload hC.x hC.b dX10_closes_314 (lv_at hl 7 rfl) ?_
                      refine ald hC hK hR (ct_m_ds G _ _) pr_84 (by omega) (by omega) rfl dX10_closes_316 ?_
                      refine lv_i2l hC.x hC.b dX10_closes_317 rfl ?_
                      refine lv_ladd hC.x hC.b dX10_closes_318 ?_
                      refine lv_lmul hC.x hC.b dX10_closes_319 ?_
                      refine lv_ladd hC.x hC.b dX10_closes_320 ?_
                      refine lv_topl (fun x_88 ex_89 => ?_)
                      refine lv_lstore (lv' := [(9, .long x_88), (7, .long x_85), (0, .ref (G.2.1 35)), (1, .int ra), (2, .int x2), (5, .long x5), (11, .int (nI n2)), (12, .int x_82)]) hC.x hC.b dX10_closes_321 hl (by decide) rfl (fun ls hl => ?_)
                      exact L_323 x_85 x_88 s2b (by exact hi0_269) hi1_269 _ _ _ hR hS (lv_sub hl [2, 3, 4, 5, 1, 0, 6] rfl)
                  refine lv_aload_n hC.x hC.b dX10_closes_235 rfl (lv_at hl 1 rfl) ?_
                  refine rget hC hK hR (ct_model G _ _) rfl uin_X10 21 (by decide) TF_X10_74 rfl dX10_closes_236 ?_
                  refine lv_iload hC.x hC.b dX10_closes_239 (lv_at hl 0 rfl) ?_
                  refine lv_aload_n hC.x hC.b dX10_closes_241 rfl (lv_at hl 1 rfl) ?_
                  refine rget hC hK hR (ct_model G _ _) rfl uin_X10 21 (by decide) TF_X10_74 rfl dX10_closes_242 ?_
                  refine lv_iload hC.x hC.b dX10_closes_245 (lv_at hl 0 rfl) ?_
                  refine ald hC hK hR (ct_m_ws G _ _) pr_84 (by omega) (by omega) rfl dX10_closes_247 ?_
                  refine lv_i2l hC.x hC.b dX10_closes_248 rfl ?_
                  refine lv_lload hC.x hC.b dX10_closes_249 (lv_at hl 4 rfl) ?_
                  refine bl_le (tgt := 261) (a := (s2 57 ((((24 * (((s2 35 29).toInt).toNat) + n2) : Nat) : Int).toNat)).toInt) (b := x5.toInt) hC.x hC.b (i2lI rfl) rfl dX10_closes_251 dX10_closes_252 (by decide) (fun c_90 => ?_) (fun c_90 => ?_)
                  · skip
                    refine lv_aload_n hC.x hC.b dX10_closes_261 rfl (lv_at hl 1 rfl) ?_
                    refine rget hC hK hR (ct_model G _ _) rfl uin_X10 21 (by decide) TF_X10_74 rfl dX10_closes_262 ?_
                    refine lv_iload hC.x hC.b dX10_closes_265 (lv_at hl 0 rfl) ?_
                    refine ald hC hK hR (ct_m_ws G _ _) pr_84 (by omega) (by omega) rfl dX10_closes_267 ?_
                    refine ast hC hK hG hR hS (fun _ => ct_m_ws G _ _) pr_84 (by omega) (by omega) rfl dX10_closes_268 (fun s_91 es_92 H locs hR hS => ?_)
                    exact L_269 s_91 (by exact (by rw [es_92]; exact KM.up hi0_203 (by omega))) (by rw [es_92]; exact MRel.up (hi2_203) (by omega) (by first | omega | (dsimp only; omega))) _ _ _ hR hS (lv_sub hl [1, 2, 3, 4, 5, 6, 7, 0] rfl)
                  · skip
                    refine lv_lload hC.x hC.b dX10_closes_255 (lv_at hl 4 rfl) ?_
                    refine lv_l2i hC.x hC.b dX10_closes_257 rfl ?_
                    refine lv_goto (tgt := 268) hC.x hC.b dX10_closes_258 (by decide) ?_
                    refine ast hC hK hG hR hS (fun _ => ct_m_ws G _ _) pr_84 (by omega) (by omega) rfl dX10_closes_268 (fun s_93 es_94 H locs hR hS => ?_)
                    exact L_269 s_93 (by exact (by rw [es_94]; exact KM.up hi0_203 (by omega))) (by rw [es_94]; exact MRel.up (hi2_203) (by omega) (by first | omega | (dsimp only; omega))) _ _ _ hR hS (lv_sub hl [1, 2, 3, 4, 5, 6, 7, 0] rfl)
                · skip
                  refine lv_goto (tgt := 323) hC.x hC.b dX10_closes_220 (by decide) ?_
                  exact L_323 x7 x9 s2 (by exact hi0_203) hi2_203 _ _ _ hR hS (lv_sub hl [0, 1, 2, 3, 4, 5, 6] rfl)
          exact L_203 _ (0 : Int64) (0 : Int64) 0 s1 t1 (Nat.lt_succ_self _) (by exact hi0_7) (by first | omega | assumption) hi3_7 _ _ _ hR hS (lv_sub hl [3, 4, 5, 6, 2, 1, 0] rfl)
        refine lv_lload_n hC.x hC.b dX10_closes_166 rfl (lv_at hl 3 rfl) ?_
        refine lv_aload_n hC.x hC.b dX10_closes_167 rfl (lv_at hl 0 rfl) ?_
        refine rget hC hK hR (ct_model G _ _) rfl uin_X10 30 (by decide) TF_X10_98 rfl dX10_closes_168 ?_
        have rd_95 : (s1 35 30).toInt = (σ 35 30).toInt := congrArg Int32.toInt (show s1 35 30 = σ 35 30 from hi3_7.2 30 (by first | omega | (dsimp only; omega)))
        refine lv_i2l hC.x hC.b dX10_closes_171 rfl ?_
        refine lv_lmul hC.x hC.b dX10_closes_172 ?_
        refine lv_ldc2 hC.x hC.b hC.ow (hC.ts _ TK_X10_238) dX10_closes_173 ?_
        refine lv_ldiv hC.x hC.b dX10_closes_176 (by decide) ?_
        refine lv_topl (fun x_96 ex_97 => ?_)
        refine lv_lstore (lv' := [(5, .long x_96), (0, .ref (G.2.1 35)), (1, .int ra), (2, .int x2), (3, .long x3)]) hC.x hC.b dX10_closes_177 hl (by decide) rfl (fun ls hl => ?_)
        refine lv_lload hC.x hC.b dX10_closes_179 (lv_at hl 0 rfl) ?_
        refine lv_lconst (v := 1) hC.x hC.b dX10_closes_181 (by decide) ?_
        refine bl_ge (tgt := 190) (a := x_96.toInt) (b := 1) hC.x hC.b rfl rfl dX10_closes_182 dX10_closes_183 (by decide) (fun c_98 => ?_) (fun c_98 => ?_)
        · skip
          refine lv_lload hC.x hC.b dX10_closes_190 (lv_at hl 0 rfl) ?_
          refine lv_lstore (lv' := [(5, .long x_96), (0, .ref (G.2.1 35)), (1, .int ra), (2, .int x2), (3, .long x3)]) hC.x hC.b dX10_closes_192 hl (by decide) rfl (fun ls hl => ?_)
          exact L_194 x_96  _ _ _ hR hS (lv_sub hl [1, 2, 3, 0] rfl)
        · skip
          refine lv_lconst (v := 1) hC.x hC.b dX10_closes_186 (by decide) ?_
          refine lv_goto (tgt := 192) hC.x hC.b dX10_closes_187 (by decide) ?_
          refine lv_lstore (lv' := [(5, .long (1 : Int64)), (0, .ref (G.2.1 35)), (1, .int ra), (2, .int x2), (3, .long x3)]) hC.x hC.b dX10_closes_192 hl (by decide) rfl (fun ls hl => ?_)
          exact L_194 (1 : Int64)  _ _ _ hR hS (lv_sub hl [1, 2, 3, 0] rfl)
      · skip
        refine lv_aload_n hC.x hC.b dX10_closes_14 rfl (lv_at hl 0 rfl) ?_
        refine rget hC hK hR (ct_model G _ _) rfl uin_X10 48 (by decide) TF_X10_126 rfl dX10_closes_15 ?_
        refine lv_iload hC.x hC.b dX10_closes_18 (lv_at hl 4 rfl) ?_
        refine lv_aload_n hC.x hC.b dX10_closes_20 rfl (lv_at hl 0 rfl) ?_
        refine lv_iload hC.x hC.b dX10_closes_21 (lv_at hl 4 rfl) ?_
        have av_99 : (nI n).toInt = (n : Int) := (nI_T n (by omega))
        refine goip (runV (As := [.int (nI n)]) (rest := [.int (nI n), .ref (G.2.1 71)]) hC hK hR hl.1 (c_X10_isTaken l hG s1 t1 (nI n) n (by first | rfl | (rw [show (nI n).toInt = (n : Int) from (nI_T n (by omega))]; done) | (rw [show (nI n).toInt = (n : Int) from (nI_T n (by omega))]; exact (Int.toNat_natCast _))) ) (call_b hC.ts TC_X10_isTaken TN_X10 TM_X10_219 hd_X10_isTaken ⟨Nat.le_of_ble_eq_true rfl, Nat.le_of_ble_eq_true rfl⟩) TI_X10_isTaken TS_X10_isTaken (ct_model G _ _) rfl rfl rfl (Nat.le_of_ble_eq_true rfl) dX10_closes_23 ⟨Nat.le_of_ble_eq_true rfl, Nat.le_of_ble_eq_true rfl⟩) hS (fun v_100 H locs w_101 hR hS => ?_)
        rcases w_101 with ⟨rfl, f_102, f_103, f_104, f_105⟩ | ⟨rfl, f_106⟩
        · skip
          have rd_107 : (s1 36 n).toInt = (σ 36 n).toInt := congrArg Int32.toInt (show s1 36 n = σ 36 n from congrFun (hi3_7.1 36 (by omega) (by first | omega | (dsimp only; omega) | (intro h; exact h))) n)
          refine bz_eq (tgt := 47) (a := 1) (b := 0) hC.x hC.b rfl rfl dX10_closes_26 (by decide) (fun c_108 => absurd c_108 (by decide)) (fun _ => ?_)
          refine lv_aload_n hC.x hC.b dX10_closes_29 rfl (lv_at hl 0 rfl) ?_
          refine lv_iload hC.x hC.b dX10_closes_30 (lv_at hl 4 rfl) ?_
          refine lv_iload_n hC.x hC.b dX10_closes_32 rfl (lv_at hl 1 rfl) ?_
          refine lv_aload_n hC.x hC.b dX10_closes_33 rfl (lv_at hl 0 rfl) ?_
          refine rget hC hK hR (ct_model G _ _) rfl uin_X10 29 (by decide) TF_X10_137 rfl dX10_closes_34 ?_
          have rd_109 : (s1 35 29).toInt = (σ 35 29).toInt := congrArg Int32.toInt (show s1 35 29 = σ 35 29 from hi3_7.2 29 (by first | omega | (dsimp only; omega)))
          have av_110 : (nI n).toInt = (n : Int) := (nI_T n (by omega))
          refine goi (runV (As := [.int (nI n), .int ra, .int (s1 35 29)]) (rest := [.int (nI n), .ref (G.2.1 71)]) hC hK hR hl.1 (c3_X10_goes l hG s1 t1 (nI n) n (by first | rfl | (rw [show (nI n).toInt = (n : Int) from (nI_T n (by omega))]; done) | (rw [show (nI n).toInt = (n : Int) from (nI_T n (by omega))]; exact (Int.toNat_natCast _))) ra rq (by first | rfl | (rw [show ra.toInt = ra.toInt from rfl]; done) | (rw [show ra.toInt = ra.toInt from rfl]; exact hp_rq)) (s1 35 29) (((s1 35 29).toInt).toNat) (by first | rfl | (rw [show (s1 35 29).toInt = (s1 35 29).toInt from rfl]; done) | (rw [show (s1 35 29).toInt = (s1 35 29).toInt from rfl]; exact rfl)) (by first | assumption | omega) (by omega) (by omega) (by exact LnM.fr (S := (fun k => (41 ≤ k ∧ k ≤ 46 ∧ k ≠ 42 ∧ k ≠ 43) ∨ (52 ≤ k ∧ k ≤ 69) ∨ k = 71)) (J := (fun j => j = 37 ∨ j = 41 ∨ j = 43 ∨ j = 44)) (σ1 := s1) hln hi3_7 (by first | omega | (dsimp only; omega)) (by first | omega | (dsimp only; omega)) (by first | omega | (dsimp only; omega)))) (call_b hC.ts TC_X10_goes TN_X10 TM_X10_164 hd_X10_goes ⟨Nat.le_of_ble_eq_true rfl, Nat.le_of_ble_eq_true rfl⟩) TI_X10_goes TS_X10_goes (ct_model G _ _) rfl rfl rfl (Nat.le_of_ble_eq_true rfl) dX10_closes_37 ⟨Nat.le_of_ble_eq_true rfl, Nat.le_of_ble_eq_true rfl⟩) hS (fun v_111 s_113 t_114 H locs w_112 hR hS => ?_)
          try dsimp only [po3_X10_goes] at w_112
          rcases w_112 with ⟨rfl, f_115, f_116, f_117⟩ | ⟨rfl, f_118, f_119, f_120⟩
          · skip
            refine bz_eq (tgt := 47) (a := 1) (b := 0) hC.x hC.b rfl rfl dX10_closes_40 (by decide) (fun c_121 => absurd c_121 (by decide)) (fun _ => ?_)
            refine lv_iconst (v := 1) hC.x hC.b dX10_closes_43 (by decide) ?_
            refine lv_goto (tgt := 48) hC.x hC.b dX10_closes_44 (by decide) ?_
            refine zast hC hK hG hR hS (fun _ => ct_m_present G _ _) (nI_T n (by omega)) (by omega) (by omega) (Int.toNat_natCast _) (Or.inr rfl) dX10_closes_48 (fun s_122 es_123 H locs hR hS => ?_)
            refine lv_aload_n hC.x hC.b dX10_closes_49 rfl (lv_at hl 0 rfl) ?_
            refine rget hC hK hR (ct_model G _ _) rfl uin_X10 48 (by decide) TF_X10_126 rfl dX10_closes_50 ?_
            refine lv_iload hC.x hC.b dX10_closes_53 (lv_at hl 4 rfl) ?_
            refine zald hC hK hR (ct_m_present G _ _) (nI_T n (by omega)) (by omega) (by omega) (Int.toNat_natCast _) dX10_closes_55 ?_
            have rd_124 : (s_122 71 n).toInt = 1 := (congrArg Int32.toInt (show s_122 71 n = (1 : Int32) from (by rw [es_123]; exact up2_s))).trans (by decide)
            refine bz_ne (tgt := 62) (a := (s_122 71 n).toInt) (b := 0) hC.x hC.b rfl rfl dX10_closes_56 (by decide) (fun c_125 => ?_) (fun c_125 => ?_)
            · skip
              obtain ⟨x_126, ex_127⟩ : ∃ y : Int32, y = x2 + 1 := ⟨_, rfl⟩
              refine lv_iinc (v := x_126) (lv' := [(2, .int x_126), (0, .ref (G.2.1 35)), (1, .int ra), (3, .long x3), (5, .int (nI n))]) hC.x hC.b dX10_closes_62 hl (k := 2) rfl ex_127.symm (by decide) rfl (fun ls hl => ?_)
              refine lv_aload_n hC.x hC.b dX10_closes_65 rfl (lv_at hl 1 rfl) ?_
              refine rget hC hK hR (ct_model G _ _) rfl uin_X10 22 (by decide) TF_X10_77 rfl dX10_closes_66 ?_
              refine lv_aload_n hC.x hC.b dX10_closes_69 rfl (lv_at hl 1 rfl) ?_
              refine lv_aload_n hC.x hC.b dX10_closes_70 rfl (lv_at hl 1 rfl) ?_
              refine rget hC hK hR (ct_model G _ _) rfl uin_X10 29 (by decide) TF_X10_137 rfl dX10_closes_71 ?_
              have rd_128 : (s_122 35 29).toInt = (σ 35 29).toInt := congrArg Int32.toInt (Eq.trans (show s_122 35 29 = s_113 35 29 from (by rw [es_123]; exact up2_o (by omega))) (Eq.trans (show s_113 35 29 = s1 35 29 from f_115.2 29 (by first | omega | (dsimp only; omega))) (show s1 35 29 = σ 35 29 from hi3_7.2 29 (by first | omega | (dsimp only; omega)))))
              refine lv_iload hC.x hC.b dX10_closes_74 (lv_at hl 4 rfl) ?_
              have av_129 : (nI n).toInt = (n : Int) := (nI_T n (by omega))
              refine goip (runV (As := [.int (s_122 35 29), .int (nI n)]) (rest := [.ref (G.2.1 58)]) hC hK hR hl.1 (c_X10_at l hG s_122 t_114 (s_122 35 29) (((s_122 35 29).toInt).toNat) (by first | rfl | (rw [show (s_122 35 29).toInt = (s_122 35 29).toInt from rfl]; done) | (rw [show (s_122 35 29).toInt = (s_122 35 29).toInt from rfl]; exact rfl)) (nI n) n (by first | rfl | (rw [show (nI n).toInt = (n : Int) from (nI_T n (by omega))]; done) | (rw [show (nI n).toInt = (n : Int) from (nI_T n (by omega))]; exact (Int.toNat_natCast _))) (by omega) (by omega)) (call_b hC.ts TC_X10_at TN_X10 TM_X10_140 hd_X10_at ⟨Nat.le_of_ble_eq_true rfl, Nat.le_of_ble_eq_true rfl⟩) TI_X10_at TS_X10_at (ct_model G _ _) rfl rfl rfl (Nat.le_of_ble_eq_true rfl) dX10_closes_76 ⟨Nat.le_of_ble_eq_true rfl, Nat.le_of_ble_eq_true rfl⟩) hS (fun v_130 H locs w_131 hR hS => ?_)
              subst w_131
              refine lv_aload_n hC.x hC.b dX10_closes_79 rfl (lv_at hl 1 rfl) ?_
              refine rget hC hK hR (ct_model G _ _) rfl uin_X10 43 (by decide) TF_X10_158 rfl dX10_closes_80 ?_
              have rd_132 : (s_122 35 43).toInt = (s_113 35 43).toInt := congrArg Int32.toInt (show s_122 35 43 = s_113 35 43 from (by rw [es_123]; exact up2_o (by omega)))
              refine lv_aload_n hC.x hC.b dX10_closes_83 rfl (lv_at hl 1 rfl) ?_
              refine rget hC hK hR (ct_model G _ _) rfl uin_X10 6 (by decide) TF_X10_29 rfl dX10_closes_84 ?_
              refine lv_iload hC.x hC.b dX10_closes_87 (lv_at hl 4 rfl) ?_
              refine ald hC hK hR (ct_m_setting G _ _) (nI_T n (by omega)) (by omega) (by omega) (Int.toNat_natCast _) dX10_closes_89 ?_
              have rd_133 : (s_122 42 n).toInt = (σ 42 n).toInt := congrArg Int32.toInt (Eq.trans (show s_122 42 n = s_113 42 n from (by rw [es_123]; exact up2_o (by omega))) (Eq.trans (show s_113 42 n = s1 42 n from congrFun (f_115.1 42 (by omega) (by first | omega | (dsimp only; omega) | (intro h; exact h))) n) (show s1 42 n = σ 42 n from congrFun (hi3_7.1 42 (by omega) (by first | omega | (dsimp only; omega) | (intro h; exact h))) n)))
              refine lv_isub hC.x hC.b dX10_closes_90 ?_
              refine lv_aload_n hC.x hC.b dX10_closes_91 rfl (lv_at hl 1 rfl) ?_
              refine rget hC hK hR (ct_model G _ _) rfl uin_X10 6 (by decide) TF_X10_29 rfl dX10_closes_92 ?_
              refine lv_iload_n hC.x hC.b dX10_closes_95 rfl (lv_at hl 2 rfl) ?_
              refine ald hC hK hR (ct_m_setting G _ _) rfl (by omega) (by omega) hp_rq dX10_closes_96 ?_
              have rd_134 : (s_122 42 rq).toInt = (σ 42 rq).toInt := congrArg Int32.toInt (Eq.trans (show s_122 42 rq = s_113 42 rq from (by rw [es_123]; exact up2_o (by omega))) (Eq.trans (show s_113 42 rq = s1 42 rq from congrFun (f_115.1 42 (by omega) (by first | omega | (dsimp only; omega) | (intro h; exact h))) rq) (show s1 42 rq = σ 42 rq from congrFun (hi3_7.1 42 (by omega) (by first | omega | (dsimp only; omega) | (intro h; exact h))) rq)))
              refine lv_iadd hC.x hC.b dX10_closes_97 ?_
              refine ast hC hK hG hR hS (fun _ => ct_m_ds G _ _) (nI_T _ (by omega)) (by omega) (by omega) (Int.toNat_natCast _) dX10_closes_98 (fun s_135 es_136 H locs hR hS => ?_)
              refine lv_aload_n hC.x hC.b dX10_closes_99 rfl (lv_at hl 1 rfl) ?_
              refine rget hC hK hR (ct_model G _ _) rfl uin_X10 19 (by decide) TF_X10_68 rfl dX10_closes_100 ?_
              refine lv_aload_n hC.x hC.b dX10_closes_103 rfl (lv_at hl 1 rfl) ?_
              refine lv_aload_n hC.x hC.b dX10_closes_104 rfl (lv_at hl 1 rfl) ?_
              refine rget hC hK hR (ct_model G _ _) rfl uin_X10 29 (by decide) TF_X10_137 rfl dX10_closes_105 ?_
              have rd_137 : (s_135 35 29).toInt = (σ 35 29).toInt := congrArg Int32.toInt (Eq.trans (show s_135 35 29 = s_122 35 29 from (by rw [es_136]; exact up2_o (by omega))) (Eq.trans (show s_122 35 29 = s_113 35 29 from (by rw [es_123]; exact up2_o (by omega))) (Eq.trans (show s_113 35 29 = s1 35 29 from f_115.2 29 (by first | omega | (dsimp only; omega))) (show s1 35 29 = σ 35 29 from hi3_7.2 29 (by first | omega | (dsimp only; omega))))))
              refine lv_iload hC.x hC.b dX10_closes_108 (lv_at hl 4 rfl) ?_
              have av_138 : (nI n).toInt = (n : Int) := (nI_T n (by omega))
              refine goip (runV (As := [.int (s_135 35 29), .int (nI n)]) (rest := [.ref (G.2.1 55)]) hC hK hR hl.1 (c_X10_at l hG s_135 t_114 (s_135 35 29) (((s_135 35 29).toInt).toNat) (by first | rfl | (rw [show (s_135 35 29).toInt = (s_135 35 29).toInt from rfl]; done) | (rw [show (s_135 35 29).toInt = (s_135 35 29).toInt from rfl]; exact rfl)) (nI n) n (by first | rfl | (rw [show (nI n).toInt = (n : Int) from (nI_T n (by omega))]; done) | (rw [show (nI n).toInt = (n : Int) from (nI_T n (by omega))]; exact (Int.toNat_natCast _))) (by omega) (by omega)) (call_b hC.ts TC_X10_at TN_X10 TM_X10_140 hd_X10_at ⟨Nat.le_of_ble_eq_true rfl, Nat.le_of_ble_eq_true rfl⟩) TI_X10_at TS_X10_at (ct_model G _ _) rfl rfl rfl (Nat.le_of_ble_eq_true rfl) dX10_closes_110 ⟨Nat.le_of_ble_eq_true rfl, Nat.le_of_ble_eq_true rfl⟩) hS (fun v_139 H locs w_140 hR hS => ?_)
              subst w_140
              refine lv_aload_n hC.x hC.b dX10_closes_113 rfl (lv_at hl 1 rfl) ?_
              refine lv_iload hC.x hC.b dX10_closes_114 (lv_at hl 4 rfl) ?_
              have rd_141 : (s_135 36 n).toInt = (σ 36 n).toInt := congrArg Int32.toInt (Eq.trans (show s_135 36 n = s_122 36 n from (by rw [es_136]; exact up2_o (by omega))) (Eq.trans (show s_122 36 n = s_113 36 n from (by rw [es_123]; exact up2_o (by omega))) (Eq.trans (show s_113 36 n = s1 36 n from congrFun (f_115.1 36 (by omega) (by first | omega | (dsimp only; omega) | (intro h; exact h))) n) (show s1 36 n = σ 36 n from congrFun (hi3_7.1 36 (by omega) (by first | omega | (dsimp only; omega) | (intro h; exact h))) n))))
              have hcq := (show ClM s_135 from ClM.fr (S := (fun k => (41 ≤ k ∧ k ≤ 46 ∧ k ≠ 42 ∧ k ≠ 43) ∨ (52 ≤ k ∧ k ≤ 69) ∨ k = 71)) (J := (fun j => j = 37 ∨ j = 41 ∨ j = 43 ∨ j = 44)) (σ1 := s_135) hcl (by rw [es_136]; exact MRel.up ((by rw [es_123]; exact MRel.up ((MRel.tr hi3_7 (MRel.mgc f_115))) (by omega) (by first | omega | (dsimp only; omega)))) (by omega) (by first | omega | (dsimp only; omega))) (by first | omega | (dsimp only; omega)) (by first | omega | (dsimp only; omega))) n (by omega) ⟨by omega, by omega⟩
              have av_142 : (nI n).toInt = (n : Int) := (nI_T n (by omega))
              have rd_143 : (s_135 35 29).toInt = (σ 35 29).toInt := congrArg Int32.toInt (Eq.trans (show s_135 35 29 = s_122 35 29 from (by rw [es_136]; exact up2_o (by omega))) (Eq.trans (show s_122 35 29 = s_113 35 29 from (by rw [es_123]; exact up2_o (by omega))) (Eq.trans (show s_113 35 29 = s1 35 29 from f_115.2 29 (by first | omega | (dsimp only; omega))) (show s1 35 29 = σ 35 29 from hi3_7.2 29 (by first | omega | (dsimp only; omega))))))
              have rd_144 : (s_135 37 n).toInt = (σ 37 n).toInt := congrArg Int32.toInt (Eq.trans (show s_135 37 n = s_122 37 n from (by rw [es_136]; exact up2_o (by omega))) (Eq.trans (show s_122 37 n = s_113 37 n from (by rw [es_123]; exact up2_o (by omega))) (Eq.trans (show s_113 37 n = s1 37 n from congrFun (f_115.1 37 (by omega) (by first | omega | (dsimp only; omega) | (intro h; exact h))) n) (show s1 37 n = σ 37 n from congrFun (hi3_7.1 37 (by omega) (by first | omega | (dsimp only; omega) | (intro h; exact h))) n))))
              refine goi (runV (As := [.int (nI n)]) (rest := [.int (nI (24 * (((s_135 35 29).toInt).toNat) + n)), .ref (G.2.1 55)]) hC hK hR hl.1 (c_X10_foretold l hG s_135 t_114 (nI n) n (by first | rfl | (rw [show (nI n).toInt = (n : Int) from (nI_T n (by omega))]; done) | (rw [show (nI n).toInt = (n : Int) from (nI_T n (by omega))]; exact (Int.toNat_natCast _))) (by first | assumption | omega) (by omega) (by first | assumption | omega)) (call_b hC.ts TC_X10_foretold TN_X10 TM_X10_210 hd_X10_foretold ⟨Nat.le_of_ble_eq_true rfl, Nat.le_of_ble_eq_true rfl⟩) TI_X10_foretold TS_X10_foretold (ct_model G _ _) rfl rfl rfl (Nat.le_of_ble_eq_true rfl) dX10_closes_116 ⟨Nat.le_of_ble_eq_true rfl, Nat.le_of_ble_eq_true rfl⟩) hS (fun v_145 s_147 t_148 H locs w_146 hR hS => ?_)
              try dsimp only [po_X10_foretold] at w_146
              have f_149 := w_146
              refine ast hC hK hG hR hS (fun _ => ct_m_fs G _ _) (nI_T _ (by omega)) (by omega) (by omega) (Int.toNat_natCast _) dX10_closes_119 (fun s_150 es_151 H locs hR hS => ?_)
              refine lv_aload_n hC.x hC.b dX10_closes_120 rfl (lv_at hl 1 rfl) ?_
              refine rget hC hK hR (ct_model G _ _) rfl uin_X10 21 (by decide) TF_X10_74 rfl dX10_closes_121 ?_
              refine lv_aload_n hC.x hC.b dX10_closes_124 rfl (lv_at hl 1 rfl) ?_
              refine lv_aload_n hC.x hC.b dX10_closes_125 rfl (lv_at hl 1 rfl) ?_
              refine rget hC hK hR (ct_model G _ _) rfl uin_X10 29 (by decide) TF_X10_137 rfl dX10_closes_126 ?_
              have rd_152 : (s_150 35 29).toInt = (σ 35 29).toInt := congrArg Int32.toInt (Eq.trans (show s_150 35 29 = s_147 35 29 from (by rw [es_151]; exact up2_o (by omega))) (Eq.trans (show s_147 35 29 = s_135 35 29 from f_149.2 29 (by first | omega | (dsimp only; omega))) (Eq.trans (show s_135 35 29 = s_122 35 29 from (by rw [es_136]; exact up2_o (by omega))) (Eq.trans (show s_122 35 29 = s_113 35 29 from (by rw [es_123]; exact up2_o (by omega))) (Eq.trans (show s_113 35 29 = s1 35 29 from f_115.2 29 (by first | omega | (dsimp only; omega))) (show s1 35 29 = σ 35 29 from hi3_7.2 29 (by first | omega | (dsimp only; omega))))))))
              refine lv_iload hC.x hC.b dX10_closes_129 (lv_at hl 4 rfl) ?_
              have av_153 : (nI n).toInt = (n : Int) := (nI_T n (by omega))
              refine goip (runV (As := [.int (s_150 35 29), .int (nI n)]) (rest := [.ref (G.2.1 57)]) hC hK hR hl.1 (c_X10_at l hG s_150 t_148 (s_150 35 29) (((s_150 35 29).toInt).toNat) (by first | rfl | (rw [show (s_150 35 29).toInt = (s_150 35 29).toInt from rfl]; done) | (rw [show (s_150 35 29).toInt = (s_150 35 29).toInt from rfl]; exact rfl)) (nI n) n (by first | rfl | (rw [show (nI n).toInt = (n : Int) from (nI_T n (by omega))]; done) | (rw [show (nI n).toInt = (n : Int) from (nI_T n (by omega))]; exact (Int.toNat_natCast _))) (by omega) (by omega)) (call_b hC.ts TC_X10_at TN_X10 TM_X10_140 hd_X10_at ⟨Nat.le_of_ble_eq_true rfl, Nat.le_of_ble_eq_true rfl⟩) TI_X10_at TS_X10_at (ct_model G _ _) rfl rfl rfl (Nat.le_of_ble_eq_true rfl) dX10_closes_131 ⟨Nat.le_of_ble_eq_true rfl, Nat.le_of_ble_eq_true rfl⟩) hS (fun v_154 H locs w_155 hR hS => ?_)
              subst w_155
              refine lv_aload_n hC.x hC.b dX10_closes_134 rfl (lv_at hl 1 rfl) ?_
              refine lv_iload hC.x hC.b dX10_closes_135 (lv_at hl 4 rfl) ?_
              have rd_156 : (s_150 36 n).toInt = (σ 36 n).toInt := congrArg Int32.toInt (Eq.trans (show s_150 36 n = s_147 36 n from (by rw [es_151]; exact up2_o (by omega))) (Eq.trans (show s_147 36 n = s_135 36 n from congrFun (f_149.1 36 (by omega) (by first | omega | (dsimp only; omega) | (intro h; exact h))) n) (Eq.trans (show s_135 36 n = s_122 36 n from (by rw [es_136]; exact up2_o (by omega))) (Eq.trans (show s_122 36 n = s_113 36 n from (by rw [es_123]; exact up2_o (by omega))) (Eq.trans (show s_113 36 n = s1 36 n from congrFun (f_115.1 36 (by omega) (by first | omega | (dsimp only; omega) | (intro h; exact h))) n) (show s1 36 n = σ 36 n from congrFun (hi3_7.1 36 (by omega) (by first | omega | (dsimp only; omega) | (intro h; exact h))) n))))))
              have hcq := (show ClM s_150 from ClM.fr (S := (fun k => (41 ≤ k ∧ k ≤ 46 ∧ k ≠ 42 ∧ k ≠ 43) ∨ (52 ≤ k ∧ k ≤ 69) ∨ k = 71)) (J := (fun j => j = 37 ∨ j = 41 ∨ j = 43 ∨ j = 44)) (σ1 := s_150) hcl (by rw [es_151]; exact MRel.up ((MRel.tr (by rw [es_136]; exact MRel.up ((by rw [es_123]; exact MRel.up ((MRel.tr hi3_7 (MRel.mgc f_115))) (by omega) (by first | omega | (dsimp only; omega)))) (by omega) (by first | omega | (dsimp only; omega))) (MRel.mfc f_149))) (by omega) (by first | omega | (dsimp only; omega))) (by first | omega | (dsimp only; omega)) (by first | omega | (dsimp only; omega))) n (by omega) ⟨by omega, by omega⟩
              have av_157 : (nI n).toInt = (n : Int) := (nI_T n (by omega))
              have rd_158 : (s_150 35 29).toInt = (σ 35 29).toInt := congrArg Int32.toInt (Eq.trans (show s_150 35 29 = s_147 35 29 from (by rw [es_151]; exact up2_o (by omega))) (Eq.trans (show s_147 35 29 = s_135 35 29 from f_149.2 29 (by first | omega | (dsimp only; omega))) (Eq.trans (show s_135 35 29 = s_122 35 29 from (by rw [es_136]; exact up2_o (by omega))) (Eq.trans (show s_122 35 29 = s_113 35 29 from (by rw [es_123]; exact up2_o (by omega))) (Eq.trans (show s_113 35 29 = s1 35 29 from f_115.2 29 (by first | omega | (dsimp only; omega))) (show s1 35 29 = σ 35 29 from hi3_7.2 29 (by first | omega | (dsimp only; omega))))))))
              have rd_159 : (s_150 37 n).toInt = (σ 37 n).toInt := congrArg Int32.toInt (Eq.trans (show s_150 37 n = s_147 37 n from (by rw [es_151]; exact up2_o (by omega))) (Eq.trans (show s_147 37 n = s_135 37 n from congrFun (f_149.1 37 (by omega) (by first | omega | (dsimp only; omega) | (intro h; exact h))) n) (Eq.trans (show s_135 37 n = s_122 37 n from (by rw [es_136]; exact up2_o (by omega))) (Eq.trans (show s_122 37 n = s_113 37 n from (by rw [es_123]; exact up2_o (by omega))) (Eq.trans (show s_113 37 n = s1 37 n from congrFun (f_115.1 37 (by omega) (by first | omega | (dsimp only; omega) | (intro h; exact h))) n) (show s1 37 n = σ 37 n from congrFun (hi3_7.1 37 (by omega) (by first | omega | (dsimp only; omega) | (intro h; exact h))) n))))))
              refine goi (runV (As := [.int (nI n)]) (rest := [.int (nI (24 * (((s_150 35 29).toInt).toNat) + n)), .ref (G.2.1 57)]) hC hK hR hl.1 (c_X10_full l hG s_150 t_148 (nI n) n (by first | rfl | (rw [show (nI n).toInt = (n : Int) from (nI_T n (by omega))]; done) | (rw [show (nI n).toInt = (n : Int) from (nI_T n (by omega))]; exact (Int.toNat_natCast _))) (by first | assumption | omega) (by omega) (by first | assumption | omega) (by exact (by rw [es_151]; exact KM.up (KM.fr (by rw [es_136]; exact KM.up (by rw [es_123]; exact KM.u71 (KM.fr hi0_7 f_115 (by first | omega | (dsimp only; omega) | exact fun q => q) (by first | omega | (dsimp only; omega) | exact fun q => q) (by first | omega | (dsimp only; omega) | exact fun q => q) (by first | omega | (dsimp only; omega))) (by decide)) (by omega)) f_149 (by first | omega | (dsimp only; omega) | exact fun q => q) (by first | omega | (dsimp only; omega) | exact fun q => q) (by first | omega | (dsimp only; omega) | exact fun q => q) (by first | omega | (dsimp only; omega))) (by omega)))) (call_b hC.ts TC_X10_full TN_X10 TM_X10_225 hd_X10_full ⟨Nat.le_of_ble_eq_true rfl, Nat.le_of_ble_eq_true rfl⟩) TI_X10_full TS_X10_full (ct_model G _ _) rfl rfl rfl (Nat.le_of_ble_eq_true rfl) dX10_closes_137 ⟨Nat.le_of_ble_eq_true rfl, Nat.le_of_ble_eq_true rfl⟩) hS (fun v_160 s_162 t_163 H locs w_161 hR hS => ?_)
              try dsimp only [po_X10_full] at w_161
              have f_164 := w_161
              refine ast hC hK hG hR hS (fun _ => ct_m_ws G _ _) (nI_T _ (by omega)) (by omega) (by omega) (Int.toNat_natCast _) dX10_closes_140 (fun s_165 es_166 H locs hR hS => ?_)
              refine lv_lload_n hC.x hC.b dX10_closes_141 rfl (lv_at hl 3 rfl) ?_
              refine lv_aload_n hC.x hC.b dX10_closes_142 rfl (lv_at hl 1 rfl) ?_
              refine rget hC hK hR (ct_model G _ _) rfl uin_X10 21 (by decide) TF_X10_74 rfl dX10_closes_143 ?_
              refine lv_aload_n hC.x hC.b dX10_closes_146 rfl (lv_at hl 1 rfl) ?_
              refine lv_aload_n hC.x hC.b dX10_closes_147 rfl (lv_at hl 1 rfl) ?_
              refine rget hC hK hR (ct_model G _ _) rfl uin_X10 29 (by decide) TF_X10_137 rfl dX10_closes_148 ?_
              have rd_167 : (s_165 35 29).toInt = (σ 35 29).toInt := congrArg Int32.toInt (Eq.trans (show s_165 35 29 = s_162 35 29 from (by rw [es_166]; exact up2_o (by omega))) (Eq.trans (show s_162 35 29 = s_150 35 29 from f_164.2 29 (by first | omega | (dsimp only; omega))) (Eq.trans (show s_150 35 29 = s_147 35 29 from (by rw [es_151]; exact up2_o (by omega))) (Eq.trans (show s_147 35 29 = s_135 35 29 from f_149.2 29 (by first | omega | (dsimp only; omega))) (Eq.trans (show s_135 35 29 = s_122 35 29 from (by rw [es_136]; exact up2_o (by omega))) (Eq.trans (show s_122 35 29 = s_113 35 29 from (by rw [es_123]; exact up2_o (by omega))) (Eq.trans (show s_113 35 29 = s1 35 29 from f_115.2 29 (by first | omega | (dsimp only; omega))) (show s1 35 29 = σ 35 29 from hi3_7.2 29 (by first | omega | (dsimp only; omega))))))))))
              refine lv_iload hC.x hC.b dX10_closes_151 (lv_at hl 4 rfl) ?_
              have av_168 : (nI n).toInt = (n : Int) := (nI_T n (by omega))
              refine goip (runV (As := [.int (s_165 35 29), .int (nI n)]) (rest := [.ref (G.2.1 57), .long x3]) hC hK hR hl.1 (c_X10_at l hG s_165 t_163 (s_165 35 29) (((s_165 35 29).toInt).toNat) (by first | rfl | (rw [show (s_165 35 29).toInt = (s_165 35 29).toInt from rfl]; done) | (rw [show (s_165 35 29).toInt = (s_165 35 29).toInt from rfl]; exact rfl)) (nI n) n (by first | rfl | (rw [show (nI n).toInt = (n : Int) from (nI_T n (by omega))]; done) | (rw [show (nI n).toInt = (n : Int) from (nI_T n (by omega))]; exact (Int.toNat_natCast _))) (by omega) (by omega)) (call_b hC.ts TC_X10_at TN_X10 TM_X10_140 hd_X10_at ⟨Nat.le_of_ble_eq_true rfl, Nat.le_of_ble_eq_true rfl⟩) TI_X10_at TS_X10_at (ct_model G _ _) rfl rfl rfl (Nat.le_of_ble_eq_true rfl) dX10_closes_153 ⟨Nat.le_of_ble_eq_true rfl, Nat.le_of_ble_eq_true rfl⟩) hS (fun v_169 H locs w_170 hR hS => ?_)
              subst w_170
              refine ald hC hK hR (ct_m_ws G _ _) (nI_T _ (by omega)) (by omega) (by omega) (Int.toNat_natCast _) dX10_closes_156 ?_
              refine lv_i2l hC.x hC.b dX10_closes_157 rfl ?_
              refine lv_ladd hC.x hC.b dX10_closes_158 ?_
              refine lv_topl (fun x_171 ex_172 => ?_)
              refine lv_lstore_n (lv' := [(3, .long x_171), (2, .int x_126), (0, .ref (G.2.1 35)), (1, .int ra), (5, .int (nI n))]) hC.x hC.b dX10_closes_159 rfl hl (by decide) rfl (fun ls hl => ?_)
              refine lv_iinc (v := nI (n + 1)) (lv' := [(5, .int (nI (n + 1))), (3, .long x_171), (2, .int x_126), (0, .ref (G.2.1 35)), (1, .int ra)]) hC.x hC.b dX10_closes_160 hl (k := 4) rfl (nI_succ _).symm (by decide) rfl (fun ls hl => ?_)
              refine lv_goto (tgt := 7) hC.x hC.b dX10_closes_163 (by decide) ?_
              exact ih_7 x_126 x_171 (n + 1) s_165 t_163 (by omega) (by exact (by rw [es_166]; exact KM.up (KM.fr (by rw [es_151]; exact KM.up (KM.fr (by rw [es_136]; exact KM.up (by rw [es_123]; exact KM.u71 (KM.fr hi0_7 f_115 (by first | omega | (dsimp only; omega) | exact fun q => q) (by first | omega | (dsimp only; omega) | exact fun q => q) (by first | omega | (dsimp only; omega) | exact fun q => q) (by first | omega | (dsimp only; omega))) (by decide)) (by omega)) f_149 (by first | omega | (dsimp only; omega) | exact fun q => q) (by first | omega | (dsimp only; omega) | exact fun q => q) (by first | omega | (dsimp only; omega) | exact fun q => q) (by first | omega | (dsimp only; omega))) (by omega)) f_164 (by first | omega | (dsimp only; omega) | exact fun q => q) (by first | omega | (dsimp only; omega) | exact fun q => q) (by first | omega | (dsimp only; omega) | exact fun q => q) (by first | omega | (dsimp only; omega))) (by omega))) (by first | omega | assumption) (by first | exact CntR.p hi2_7 (pm_mk (K6.mr hi3_7 (by intro k h1 h2; first | omega | (dsimp only at h2; omega)) (by omega)) ⟨by omega, by omega, by omega, by omega⟩ (by assumption)) (by assumption) | exact CntR.q hi2_7 (qm_0 (K6.mr hi3_7 (by intro k h1 h2; first | omega | (dsimp only at h2; omega)) (by omega)) (by rintro ⟨h1, h2, h3, h4⟩; omega)) | exact CntR.q hi2_7 (qm_1 (K6.mr hi3_7 (by intro k h1 h2; first | omega | (dsimp only at h2; omega)) (by omega)) (by assumption)) | (exfalso; omega)) (by rw [es_166]; exact MRel.up ((MRel.tr (by rw [es_151]; exact MRel.up ((MRel.tr (by rw [es_136]; exact MRel.up ((by rw [es_123]; exact MRel.up ((MRel.tr hi3_7 (MRel.mgc f_115))) (by omega) (by first | omega | (dsimp only; omega)))) (by omega) (by first | omega | (dsimp only; omega))) (MRel.mfc f_149))) (by omega) (by first | omega | (dsimp only; omega))) (MRel.mfc f_164))) (by omega) (by first | omega | (dsimp only; omega))) _ _ _ hR hS (lv_sub hl [3, 4, 2, 1, 0] rfl)
            · skip
              refine lv_goto (tgt := 160) hC.x hC.b dX10_closes_59 (by decide) ?_
              refine lv_iinc (v := nI (n + 1)) (lv' := [(5, .int (nI (n + 1))), (0, .ref (G.2.1 35)), (1, .int ra), (2, .int x2), (3, .long x3)]) hC.x hC.b dX10_closes_160 hl (k := 4) rfl (nI_succ _).symm (by decide) rfl (fun ls hl => ?_)
              refine lv_goto (tgt := 7) hC.x hC.b dX10_closes_163 (by decide) ?_
              exact ih_7 x2 x3 (n + 1) s_122 t_114 (by omega) (by exact (by rw [es_123]; exact KM.u71 (KM.fr hi0_7 f_115 (by first | omega | (dsimp only; omega) | exact fun q => q) (by first | omega | (dsimp only; omega) | exact fun q => q) (by first | omega | (dsimp only; omega) | exact fun q => q) (by first | omega | (dsimp only; omega))) (by decide))) (by first | omega | assumption) (by first | exact CntR.p hi2_7 (pm_mk (K6.mr hi3_7 (by intro k h1 h2; first | omega | (dsimp only at h2; omega)) (by omega)) ⟨by omega, by omega, by omega, by omega⟩ (by assumption)) (by assumption) | exact CntR.q hi2_7 (qm_0 (K6.mr hi3_7 (by intro k h1 h2; first | omega | (dsimp only at h2; omega)) (by omega)) (by rintro ⟨h1, h2, h3, h4⟩; omega)) | exact CntR.q hi2_7 (qm_1 (K6.mr hi3_7 (by intro k h1 h2; first | omega | (dsimp only at h2; omega)) (by omega)) (by assumption)) | (exfalso; omega)) (by rw [es_123]; exact MRel.up ((MRel.tr hi3_7 (MRel.mgc f_115))) (by omega) (by first | omega | (dsimp only; omega))) _ _ _ hR hS (lv_sub hl [1, 2, 3, 4, 0] rfl)
          · skip
            refine bz_eq (tgt := 47) (a := 0) (b := 0) hC.x hC.b rfl rfl dX10_closes_40 (by decide) (fun _ => ?_) (fun c_173 => absurd c_173 (by decide))
            refine lv_iconst (v := 0) hC.x hC.b dX10_closes_47 (by decide) ?_
            refine zast hC hK hG hR hS (fun _ => ct_m_present G _ _) (nI_T n (by omega)) (by omega) (by omega) (Int.toNat_natCast _) (Or.inl rfl) dX10_closes_48 (fun s_174 es_175 H locs hR hS => ?_)
            refine lv_aload_n hC.x hC.b dX10_closes_49 rfl (lv_at hl 0 rfl) ?_
            refine rget hC hK hR (ct_model G _ _) rfl uin_X10 48 (by decide) TF_X10_126 rfl dX10_closes_50 ?_
            refine lv_iload hC.x hC.b dX10_closes_53 (lv_at hl 4 rfl) ?_
            refine zald hC hK hR (ct_m_present G _ _) (nI_T n (by omega)) (by omega) (by omega) (Int.toNat_natCast _) dX10_closes_55 ?_
            have rd_176 : (s_174 71 n).toInt = 0 := (congrArg Int32.toInt (show s_174 71 n = (0 : Int32) from (by rw [es_175]; exact up2_s))).trans (by decide)
            refine bz_ne (tgt := 62) (a := (s_174 71 n).toInt) (b := 0) hC.x hC.b rfl rfl dX10_closes_56 (by decide) (fun c_177 => ?_) (fun c_177 => ?_)
            · skip
              obtain ⟨x_178, ex_179⟩ : ∃ y : Int32, y = x2 + 1 := ⟨_, rfl⟩
              refine lv_iinc (v := x_178) (lv' := [(2, .int x_178), (0, .ref (G.2.1 35)), (1, .int ra), (3, .long x3), (5, .int (nI n))]) hC.x hC.b dX10_closes_62 hl (k := 2) rfl ex_179.symm (by decide) rfl (fun ls hl => ?_)
              refine lv_aload_n hC.x hC.b dX10_closes_65 rfl (lv_at hl 1 rfl) ?_
              refine rget hC hK hR (ct_model G _ _) rfl uin_X10 22 (by decide) TF_X10_77 rfl dX10_closes_66 ?_
              refine lv_aload_n hC.x hC.b dX10_closes_69 rfl (lv_at hl 1 rfl) ?_
              refine lv_aload_n hC.x hC.b dX10_closes_70 rfl (lv_at hl 1 rfl) ?_
              refine rget hC hK hR (ct_model G _ _) rfl uin_X10 29 (by decide) TF_X10_137 rfl dX10_closes_71 ?_
              have rd_180 : (s_174 35 29).toInt = (σ 35 29).toInt := congrArg Int32.toInt (Eq.trans (show s_174 35 29 = s_113 35 29 from (by rw [es_175]; exact up2_o (by omega))) (Eq.trans (show s_113 35 29 = s1 35 29 from f_118.2 29 (by first | omega | (dsimp only; omega))) (show s1 35 29 = σ 35 29 from hi3_7.2 29 (by first | omega | (dsimp only; omega)))))
              refine lv_iload hC.x hC.b dX10_closes_74 (lv_at hl 4 rfl) ?_
              have av_181 : (nI n).toInt = (n : Int) := (nI_T n (by omega))
              refine goip (runV (As := [.int (s_174 35 29), .int (nI n)]) (rest := [.ref (G.2.1 58)]) hC hK hR hl.1 (c_X10_at l hG s_174 t_114 (s_174 35 29) (((s_174 35 29).toInt).toNat) (by first | rfl | (rw [show (s_174 35 29).toInt = (s_174 35 29).toInt from rfl]; done) | (rw [show (s_174 35 29).toInt = (s_174 35 29).toInt from rfl]; exact rfl)) (nI n) n (by first | rfl | (rw [show (nI n).toInt = (n : Int) from (nI_T n (by omega))]; done) | (rw [show (nI n).toInt = (n : Int) from (nI_T n (by omega))]; exact (Int.toNat_natCast _))) (by omega) (by omega)) (call_b hC.ts TC_X10_at TN_X10 TM_X10_140 hd_X10_at ⟨Nat.le_of_ble_eq_true rfl, Nat.le_of_ble_eq_true rfl⟩) TI_X10_at TS_X10_at (ct_model G _ _) rfl rfl rfl (Nat.le_of_ble_eq_true rfl) dX10_closes_76 ⟨Nat.le_of_ble_eq_true rfl, Nat.le_of_ble_eq_true rfl⟩) hS (fun v_182 H locs w_183 hR hS => ?_)
              subst w_183
              refine lv_aload_n hC.x hC.b dX10_closes_79 rfl (lv_at hl 1 rfl) ?_
              refine rget hC hK hR (ct_model G _ _) rfl uin_X10 43 (by decide) TF_X10_158 rfl dX10_closes_80 ?_
              have rd_184 : (s_174 35 43).toInt = (s_113 35 43).toInt := congrArg Int32.toInt (show s_174 35 43 = s_113 35 43 from (by rw [es_175]; exact up2_o (by omega)))
              refine lv_aload_n hC.x hC.b dX10_closes_83 rfl (lv_at hl 1 rfl) ?_
              refine rget hC hK hR (ct_model G _ _) rfl uin_X10 6 (by decide) TF_X10_29 rfl dX10_closes_84 ?_
              refine lv_iload hC.x hC.b dX10_closes_87 (lv_at hl 4 rfl) ?_
              refine ald hC hK hR (ct_m_setting G _ _) (nI_T n (by omega)) (by omega) (by omega) (Int.toNat_natCast _) dX10_closes_89 ?_
              have rd_185 : (s_174 42 n).toInt = (σ 42 n).toInt := congrArg Int32.toInt (Eq.trans (show s_174 42 n = s_113 42 n from (by rw [es_175]; exact up2_o (by omega))) (Eq.trans (show s_113 42 n = s1 42 n from congrFun (f_118.1 42 (by omega) (by first | omega | (dsimp only; omega) | (intro h; exact h))) n) (show s1 42 n = σ 42 n from congrFun (hi3_7.1 42 (by omega) (by first | omega | (dsimp only; omega) | (intro h; exact h))) n)))
              refine lv_isub hC.x hC.b dX10_closes_90 ?_
              refine lv_aload_n hC.x hC.b dX10_closes_91 rfl (lv_at hl 1 rfl) ?_
              refine rget hC hK hR (ct_model G _ _) rfl uin_X10 6 (by decide) TF_X10_29 rfl dX10_closes_92 ?_
              refine lv_iload_n hC.x hC.b dX10_closes_95 rfl (lv_at hl 2 rfl) ?_
              refine ald hC hK hR (ct_m_setting G _ _) rfl (by omega) (by omega) hp_rq dX10_closes_96 ?_
              have rd_186 : (s_174 42 rq).toInt = (σ 42 rq).toInt := congrArg Int32.toInt (Eq.trans (show s_174 42 rq = s_113 42 rq from (by rw [es_175]; exact up2_o (by omega))) (Eq.trans (show s_113 42 rq = s1 42 rq from congrFun (f_118.1 42 (by omega) (by first | omega | (dsimp only; omega) | (intro h; exact h))) rq) (show s1 42 rq = σ 42 rq from congrFun (hi3_7.1 42 (by omega) (by first | omega | (dsimp only; omega) | (intro h; exact h))) rq)))
              refine lv_iadd hC.x hC.b dX10_closes_97 ?_
              refine ast hC hK hG hR hS (fun _ => ct_m_ds G _ _) (nI_T _ (by omega)) (by omega) (by omega) (Int.toNat_natCast _) dX10_closes_98 (fun s_187 es_188 H locs hR hS => ?_)
              refine lv_aload_n hC.x hC.b dX10_closes_99 rfl (lv_at hl 1 rfl) ?_
              refine rget hC hK hR (ct_model G _ _) rfl uin_X10 19 (by decide) TF_X10_68 rfl dX10_closes_100 ?_
              refine lv_aload_n hC.x hC.b dX10_closes_103 rfl (lv_at hl 1 rfl) ?_
              refine lv_aload_n hC.x hC.b dX10_closes_104 rfl (lv_at hl 1 rfl) ?_
              refine rget hC hK hR (ct_model G _ _) rfl uin_X10 29 (by decide) TF_X10_137 rfl dX10_closes_105 ?_
              have rd_189 : (s_187 35 29).toInt = (σ 35 29).toInt := congrArg Int32.toInt (Eq.trans (show s_187 35 29 = s_174 35 29 from (by rw [es_188]; exact up2_o (by omega))) (Eq.trans (show s_174 35 29 = s_113 35 29 from (by rw [es_175]; exact up2_o (by omega))) (Eq.trans (show s_113 35 29 = s1 35 29 from f_118.2 29 (by first | omega | (dsimp only; omega))) (show s1 35 29 = σ 35 29 from hi3_7.2 29 (by first | omega | (dsimp only; omega))))))
              refine lv_iload hC.x hC.b dX10_closes_108 (lv_at hl 4 rfl) ?_
              have av_190 : (nI n).toInt = (n : Int) := (nI_T n (by omega))
              refine goip (runV (As := [.int (s_187 35 29), .int (nI n)]) (rest := [.ref (G.2.1 55)]) hC hK hR hl.1 (c_X10_at l hG s_187 t_114 (s_187 35 29) (((s_187 35 29).toInt).toNat) (by first | rfl | (rw [show (s_187 35 29).toInt = (s_187 35 29).toInt from rfl]; done) | (rw [show (s_187 35 29).toInt = (s_187 35 29).toInt from rfl]; exact rfl)) (nI n) n (by first | rfl | (rw [show (nI n).toInt = (n : Int) from (nI_T n (by omega))]; done) | (rw [show (nI n).toInt = (n : Int) from (nI_T n (by omega))]; exact (Int.toNat_natCast _))) (by omega) (by omega)) (call_b hC.ts TC_X10_at TN_X10 TM_X10_140 hd_X10_at ⟨Nat.le_of_ble_eq_true rfl, Nat.le_of_ble_eq_true rfl⟩) TI_X10_at TS_X10_at (ct_model G _ _) rfl rfl rfl (Nat.le_of_ble_eq_true rfl) dX10_closes_110 ⟨Nat.le_of_ble_eq_true rfl, Nat.le_of_ble_eq_true rfl⟩) hS (fun v_191 H locs w_192 hR hS => ?_)
              subst w_192
              refine lv_aload_n hC.x hC.b dX10_closes_113 rfl (lv_at hl 1 rfl) ?_
              refine lv_iload hC.x hC.b dX10_closes_114 (lv_at hl 4 rfl) ?_
              have rd_193 : (s_187 36 n).toInt = (σ 36 n).toInt := congrArg Int32.toInt (Eq.trans (show s_187 36 n = s_174 36 n from (by rw [es_188]; exact up2_o (by omega))) (Eq.trans (show s_174 36 n = s_113 36 n from (by rw [es_175]; exact up2_o (by omega))) (Eq.trans (show s_113 36 n = s1 36 n from congrFun (f_118.1 36 (by omega) (by first | omega | (dsimp only; omega) | (intro h; exact h))) n) (show s1 36 n = σ 36 n from congrFun (hi3_7.1 36 (by omega) (by first | omega | (dsimp only; omega) | (intro h; exact h))) n))))
              have hcq := (show ClM s_187 from ClM.fr (S := (fun k => (41 ≤ k ∧ k ≤ 46 ∧ k ≠ 42 ∧ k ≠ 43) ∨ (52 ≤ k ∧ k ≤ 69) ∨ k = 71)) (J := (fun j => j = 37 ∨ j = 41 ∨ j = 43 ∨ j = 44)) (σ1 := s_187) hcl (by rw [es_188]; exact MRel.up ((by rw [es_175]; exact MRel.up ((MRel.tr hi3_7 (MRel.mgc f_118))) (by omega) (by first | omega | (dsimp only; omega)))) (by omega) (by first | omega | (dsimp only; omega))) (by first | omega | (dsimp only; omega)) (by first | omega | (dsimp only; omega))) n (by omega) ⟨by omega, by omega⟩
              have av_194 : (nI n).toInt = (n : Int) := (nI_T n (by omega))
              have rd_195 : (s_187 35 29).toInt = (σ 35 29).toInt := congrArg Int32.toInt (Eq.trans (show s_187 35 29 = s_174 35 29 from (by rw [es_188]; exact up2_o (by omega))) (Eq.trans (show s_174 35 29 = s_113 35 29 from (by rw [es_175]; exact up2_o (by omega))) (Eq.trans (show s_113 35 29 = s1 35 29 from f_118.2 29 (by first | omega | (dsimp only; omega))) (show s1 35 29 = σ 35 29 from hi3_7.2 29 (by first | omega | (dsimp only; omega))))))
              have rd_196 : (s_187 37 n).toInt = (σ 37 n).toInt := congrArg Int32.toInt (Eq.trans (show s_187 37 n = s_174 37 n from (by rw [es_188]; exact up2_o (by omega))) (Eq.trans (show s_174 37 n = s_113 37 n from (by rw [es_175]; exact up2_o (by omega))) (Eq.trans (show s_113 37 n = s1 37 n from congrFun (f_118.1 37 (by omega) (by first | omega | (dsimp only; omega) | (intro h; exact h))) n) (show s1 37 n = σ 37 n from congrFun (hi3_7.1 37 (by omega) (by first | omega | (dsimp only; omega) | (intro h; exact h))) n))))
              refine goi (runV (As := [.int (nI n)]) (rest := [.int (nI (24 * (((s_187 35 29).toInt).toNat) + n)), .ref (G.2.1 55)]) hC hK hR hl.1 (c_X10_foretold l hG s_187 t_114 (nI n) n (by first | rfl | (rw [show (nI n).toInt = (n : Int) from (nI_T n (by omega))]; done) | (rw [show (nI n).toInt = (n : Int) from (nI_T n (by omega))]; exact (Int.toNat_natCast _))) (by first | assumption | omega) (by omega) (by first | assumption | omega)) (call_b hC.ts TC_X10_foretold TN_X10 TM_X10_210 hd_X10_foretold ⟨Nat.le_of_ble_eq_true rfl, Nat.le_of_ble_eq_true rfl⟩) TI_X10_foretold TS_X10_foretold (ct_model G _ _) rfl rfl rfl (Nat.le_of_ble_eq_true rfl) dX10_closes_116 ⟨Nat.le_of_ble_eq_true rfl, Nat.le_of_ble_eq_true rfl⟩) hS (fun v_197 s_199 t_200 H locs w_198 hR hS => ?_)
              try dsimp only [po_X10_foretold] at w_198
              have f_201 := w_198
              refine ast hC hK hG hR hS (fun _ => ct_m_fs G _ _) (nI_T _ (by omega)) (by omega) (by omega) (Int.toNat_natCast _) dX10_closes_119 (fun s_202 es_203 H locs hR hS => ?_)
              refine lv_aload_n hC.x hC.b dX10_closes_120 rfl (lv_at hl 1 rfl) ?_
              refine rget hC hK hR (ct_model G _ _) rfl uin_X10 21 (by decide) TF_X10_74 rfl dX10_closes_121 ?_
              refine lv_aload_n hC.x hC.b dX10_closes_124 rfl (lv_at hl 1 rfl) ?_
              refine lv_aload_n hC.x hC.b dX10_closes_125 rfl (lv_at hl 1 rfl) ?_
              refine rget hC hK hR (ct_model G _ _) rfl uin_X10 29 (by decide) TF_X10_137 rfl dX10_closes_126 ?_
              have rd_204 : (s_202 35 29).toInt = (σ 35 29).toInt := congrArg Int32.toInt (Eq.trans (show s_202 35 29 = s_199 35 29 from (by rw [es_203]; exact up2_o (by omega))) (Eq.trans (show s_199 35 29 = s_187 35 29 from f_201.2 29 (by first | omega | (dsimp only; omega))) (Eq.trans (show s_187 35 29 = s_174 35 29 from (by rw [es_188]; exact up2_o (by omega))) (Eq.trans (show s_174 35 29 = s_113 35 29 from (by rw [es_175]; exact up2_o (by omega))) (Eq.trans (show s_113 35 29 = s1 35 29 from f_118.2 29 (by first | omega | (dsimp only; omega))) (show s1 35 29 = σ 35 29 from hi3_7.2 29 (by first | omega | (dsimp only; omega))))))))
              refine lv_iload hC.x hC.b dX10_closes_129 (lv_at hl 4 rfl) ?_
              have av_205 : (nI n).toInt = (n : Int) := (nI_T n (by omega))
              refine goip (runV (As := [.int (s_202 35 29), .int (nI n)]) (rest := [.ref (G.2.1 57)]) hC hK hR hl.1 (c_X10_at l hG s_202 t_200 (s_202 35 29) (((s_202 35 29).toInt).toNat) (by first | rfl | (rw [show (s_202 35 29).toInt = (s_202 35 29).toInt from rfl]; done) | (rw [show (s_202 35 29).toInt = (s_202 35 29).toInt from rfl]; exact rfl)) (nI n) n (by first | rfl | (rw [show (nI n).toInt = (n : Int) from (nI_T n (by omega))]; done) | (rw [show (nI n).toInt = (n : Int) from (nI_T n (by omega))]; exact (Int.toNat_natCast _))) (by omega) (by omega)) (call_b hC.ts TC_X10_at TN_X10 TM_X10_140 hd_X10_at ⟨Nat.le_of_ble_eq_true rfl, Nat.le_of_ble_eq_true rfl⟩) TI_X10_at TS_X10_at (ct_model G _ _) rfl rfl rfl (Nat.le_of_ble_eq_true rfl) dX10_closes_131 ⟨Nat.le_of_ble_eq_true rfl, Nat.le_of_ble_eq_true rfl⟩) hS (fun v_206 H locs w_207 hR hS => ?_)
              subst w_207
              refine lv_aload_n hC.x hC.b dX10_closes_134 rfl (lv_at hl 1 rfl) ?_
              refine lv_iload hC.x hC.b dX10_closes_135 (lv_at hl 4 rfl) ?_
              have rd_208 : (s_202 36 n).toInt = (σ 36 n).toInt := congrArg Int32.toInt (Eq.trans (show s_202 36 n = s_199 36 n from (by rw [es_203]; exact up2_o (by omega))) (Eq.trans (show s_199 36 n = s_187 36 n from congrFun (f_201.1 36 (by omega) (by first | omega | (dsimp only; omega) | (intro h; exact h))) n) (Eq.trans (show s_187 36 n = s_174 36 n from (by rw [es_188]; exact up2_o (by omega))) (Eq.trans (show s_174 36 n = s_113 36 n from (by rw [es_175]; exact up2_o (by omega))) (Eq.trans (show s_113 36 n = s1 36 n from congrFun (f_118.1 36 (by omega) (by first | omega | (dsimp only; omega) | (intro h; exact h))) n) (show s1 36 n = σ 36 n from congrFun (hi3_7.1 36 (by omega) (by first | omega | (dsimp only; omega) | (intro h; exact h))) n))))))
              have hcq := (show ClM s_202 from ClM.fr (S := (fun k => (41 ≤ k ∧ k ≤ 46 ∧ k ≠ 42 ∧ k ≠ 43) ∨ (52 ≤ k ∧ k ≤ 69) ∨ k = 71)) (J := (fun j => j = 37 ∨ j = 41 ∨ j = 43 ∨ j = 44)) (σ1 := s_202) hcl (by rw [es_203]; exact MRel.up ((MRel.tr (by rw [es_188]; exact MRel.up ((by rw [es_175]; exact MRel.up ((MRel.tr hi3_7 (MRel.mgc f_118))) (by omega) (by first | omega | (dsimp only; omega)))) (by omega) (by first | omega | (dsimp only; omega))) (MRel.mfc f_201))) (by omega) (by first | omega | (dsimp only; omega))) (by first | omega | (dsimp only; omega)) (by first | omega | (dsimp only; omega))) n (by omega) ⟨by omega, by omega⟩
              have av_209 : (nI n).toInt = (n : Int) := (nI_T n (by omega))
              have rd_210 : (s_202 35 29).toInt = (σ 35 29).toInt := congrArg Int32.toInt (Eq.trans (show s_202 35 29 = s_199 35 29 from (by rw [es_203]; exact up2_o (by omega))) (Eq.trans (show s_199 35 29 = s_187 35 29 from f_201.2 29 (by first | omega | (dsimp only; omega))) (Eq.trans (show s_187 35 29 = s_174 35 29 from (by rw [es_188]; exact up2_o (by omega))) (Eq.trans (show s_174 35 29 = s_113 35 29 from (by rw [es_175]; exact up2_o (by omega))) (Eq.trans (show s_113 35 29 = s1 35 29 from f_118.2 29 (by first | omega | (dsimp only; omega))) (show s1 35 29 = σ 35 29 from hi3_7.2 29 (by first | omega | (dsimp only; omega))))))))
              have rd_211 : (s_202 37 n).toInt = (σ 37 n).toInt := congrArg Int32.toInt (Eq.trans (show s_202 37 n = s_199 37 n from (by rw [es_203]; exact up2_o (by omega))) (Eq.trans (show s_199 37 n = s_187 37 n from congrFun (f_201.1 37 (by omega) (by first | omega | (dsimp only; omega) | (intro h; exact h))) n) (Eq.trans (show s_187 37 n = s_174 37 n from (by rw [es_188]; exact up2_o (by omega))) (Eq.trans (show s_174 37 n = s_113 37 n from (by rw [es_175]; exact up2_o (by omega))) (Eq.trans (show s_113 37 n = s1 37 n from congrFun (f_118.1 37 (by omega) (by first | omega | (dsimp only; omega) | (intro h; exact h))) n) (show s1 37 n = σ 37 n from congrFun (hi3_7.1 37 (by omega) (by first | omega | (dsimp only; omega) | (intro h; exact h))) n))))))
              refine goi (runV (As := [.int (nI n)]) (rest := [.int (nI (24 * (((s_202 35 29).toInt).toNat) + n)), .ref (G.2.1 57)]) hC hK hR hl.1 (c_X10_full l hG s_202 t_200 (nI n) n (by first | rfl | (rw [show (nI n).toInt = (n : Int) from (nI_T n (by omega))]; done) | (rw [show (nI n).toInt = (n : Int) from (nI_T n (by omega))]; exact (Int.toNat_natCast _))) (by first | assumption | omega) (by omega) (by first | assumption | omega) (by exact (by rw [es_203]; exact KM.up (KM.fr (by rw [es_188]; exact KM.up (by rw [es_175]; exact KM.u71 (KM.fr hi0_7 f_118 (by first | omega | (dsimp only; omega) | exact fun q => q) (by first | omega | (dsimp only; omega) | exact fun q => q) (by first | omega | (dsimp only; omega) | exact fun q => q) (by first | omega | (dsimp only; omega))) (by decide)) (by omega)) f_201 (by first | omega | (dsimp only; omega) | exact fun q => q) (by first | omega | (dsimp only; omega) | exact fun q => q) (by first | omega | (dsimp only; omega) | exact fun q => q) (by first | omega | (dsimp only; omega))) (by omega)))) (call_b hC.ts TC_X10_full TN_X10 TM_X10_225 hd_X10_full ⟨Nat.le_of_ble_eq_true rfl, Nat.le_of_ble_eq_true rfl⟩) TI_X10_full TS_X10_full (ct_model G _ _) rfl rfl rfl (Nat.le_of_ble_eq_true rfl) dX10_closes_137 ⟨Nat.le_of_ble_eq_true rfl, Nat.le_of_ble_eq_true rfl⟩) hS (fun v_212 s_214 t_215 H locs w_213 hR hS => ?_)
              try dsimp only [po_X10_full] at w_213
              have f_216 := w_213
              refine ast hC hK hG hR hS (fun _ => ct_m_ws G _ _) (nI_T _ (by omega)) (by omega) (by omega) (Int.toNat_natCast _) dX10_closes_140 (fun s_217 es_218 H locs hR hS => ?_)
              refine lv_lload_n hC.x hC.b dX10_closes_141 rfl (lv_at hl 3 rfl) ?_
              refine lv_aload_n hC.x hC.b dX10_closes_142 rfl (lv_at hl 1 rfl) ?_
              refine rget hC hK hR (ct_model G _ _) rfl uin_X10 21 (by decide) TF_X10_74 rfl dX10_closes_143 ?_
              refine lv_aload_n hC.x hC.b dX10_closes_146 rfl (lv_at hl 1 rfl) ?_
              refine lv_aload_n hC.x hC.b dX10_closes_147 rfl (lv_at hl 1 rfl) ?_
              refine rget hC hK hR (ct_model G _ _) rfl uin_X10 29 (by decide) TF_X10_137 rfl dX10_closes_148 ?_
              have rd_219 : (s_217 35 29).toInt = (σ 35 29).toInt := congrArg Int32.toInt (Eq.trans (show s_217 35 29 = s_214 35 29 from (by rw [es_218]; exact up2_o (by omega))) (Eq.trans (show s_214 35 29 = s_202 35 29 from f_216.2 29 (by first | omega | (dsimp only; omega))) (Eq.trans (show s_202 35 29 = s_199 35 29 from (by rw [es_203]; exact up2_o (by omega))) (Eq.trans (show s_199 35 29 = s_187 35 29 from f_201.2 29 (by first | omega | (dsimp only; omega))) (Eq.trans (show s_187 35 29 = s_174 35 29 from (by rw [es_188]; exact up2_o (by omega))) (Eq.trans (show s_174 35 29 = s_113 35 29 from (by rw [es_175]; exact up2_o (by omega))) (Eq.trans (show s_113 35 29 = s1 35 29 from f_118.2 29 (by first | omega | (dsimp only; omega))) (show s1 35 29 = σ 35 29 from hi3_7.2 29 (by first | omega | (dsimp only; omega))))))))))
              refine lv_iload hC.x hC.b dX10_closes_151 (lv_at hl 4 rfl) ?_
              have av_220 : (nI n).toInt = (n : Int) := (nI_T n (by omega))
              refine goip (runV (As := [.int (s_217 35 29), .int (nI n)]) (rest := [.ref (G.2.1 57), .long x3]) hC hK hR hl.1 (c_X10_at l hG s_217 t_215 (s_217 35 29) (((s_217 35 29).toInt).toNat) (by first | rfl | (rw [show (s_217 35 29).toInt = (s_217 35 29).toInt from rfl]; done) | (rw [show (s_217 35 29).toInt = (s_217 35 29).toInt from rfl]; exact rfl)) (nI n) n (by first | rfl | (rw [show (nI n).toInt = (n : Int) from (nI_T n (by omega))]; done) | (rw [show (nI n).toInt = (n : Int) from (nI_T n (by omega))]; exact (Int.toNat_natCast _))) (by omega) (by omega)) (call_b hC.ts TC_X10_at TN_X10 TM_X10_140 hd_X10_at ⟨Nat.le_of_ble_eq_true rfl, Nat.le_of_ble_eq_true rfl⟩) TI_X10_at TS_X10_at (ct_model G _ _) rfl rfl rfl (Nat.le_of_ble_eq_true rfl) dX10_closes_153 ⟨Nat.le_of_ble_eq_true rfl, Nat.le_of_ble_eq_true rfl⟩) hS (fun v_221 H locs w_222 hR hS => ?_)
              subst w_222
              refine ald hC hK hR (ct_m_ws G _ _) (nI_T _ (by omega)) (by omega) (by omega) (Int.toNat_natCast _) dX10_closes_156 ?_
              refine lv_i2l hC.x hC.b dX10_closes_157 rfl ?_
              refine lv_ladd hC.x hC.b dX10_closes_158 ?_
              refine lv_topl (fun x_223 ex_224 => ?_)
              refine lv_lstore_n (lv' := [(3, .long x_223), (2, .int x_178), (0, .ref (G.2.1 35)), (1, .int ra), (5, .int (nI n))]) hC.x hC.b dX10_closes_159 rfl hl (by decide) rfl (fun ls hl => ?_)
              refine lv_iinc (v := nI (n + 1)) (lv' := [(5, .int (nI (n + 1))), (3, .long x_223), (2, .int x_178), (0, .ref (G.2.1 35)), (1, .int ra)]) hC.x hC.b dX10_closes_160 hl (k := 4) rfl (nI_succ _).symm (by decide) rfl (fun ls hl => ?_)
              refine lv_goto (tgt := 7) hC.x hC.b dX10_closes_163 (by decide) ?_
              exact ih_7 x_178 x_223 (n + 1) s_217 t_215 (by omega) (by exact (by rw [es_218]; exact KM.up (KM.fr (by rw [es_203]; exact KM.up (KM.fr (by rw [es_188]; exact KM.up (by rw [es_175]; exact KM.u71 (KM.fr hi0_7 f_118 (by first | omega | (dsimp only; omega) | exact fun q => q) (by first | omega | (dsimp only; omega) | exact fun q => q) (by first | omega | (dsimp only; omega) | exact fun q => q) (by first | omega | (dsimp only; omega))) (by decide)) (by omega)) f_201 (by first | omega | (dsimp only; omega) | exact fun q => q) (by first | omega | (dsimp only; omega) | exact fun q => q) (by first | omega | (dsimp only; omega) | exact fun q => q) (by first | omega | (dsimp only; omega))) (by omega)) f_216 (by first | omega | (dsimp only; omega) | exact fun q => q) (by first | omega | (dsimp only; omega) | exact fun q => q) (by first | omega | (dsimp only; omega) | exact fun q => q) (by first | omega | (dsimp only; omega))) (by omega))) (by first | omega | assumption) (by first | exact CntR.p hi2_7 (pm_mk (K6.mr hi3_7 (by intro k h1 h2; first | omega | (dsimp only at h2; omega)) (by omega)) ⟨by omega, by omega, by omega, by omega⟩ (by assumption)) (by assumption) | exact CntR.q hi2_7 (qm_0 (K6.mr hi3_7 (by intro k h1 h2; first | omega | (dsimp only at h2; omega)) (by omega)) (by rintro ⟨h1, h2, h3, h4⟩; omega)) | exact CntR.q hi2_7 (qm_1 (K6.mr hi3_7 (by intro k h1 h2; first | omega | (dsimp only at h2; omega)) (by omega)) (by assumption)) | (exfalso; omega)) (by rw [es_218]; exact MRel.up ((MRel.tr (by rw [es_203]; exact MRel.up ((MRel.tr (by rw [es_188]; exact MRel.up ((by rw [es_175]; exact MRel.up ((MRel.tr hi3_7 (MRel.mgc f_118))) (by omega) (by first | omega | (dsimp only; omega)))) (by omega) (by first | omega | (dsimp only; omega))) (MRel.mfc f_201))) (by omega) (by first | omega | (dsimp only; omega))) (MRel.mfc f_216))) (by omega) (by first | omega | (dsimp only; omega))) _ _ _ hR hS (lv_sub hl [3, 4, 2, 1, 0] rfl)
            · skip
              refine lv_goto (tgt := 160) hC.x hC.b dX10_closes_59 (by decide) ?_
              refine lv_iinc (v := nI (n + 1)) (lv' := [(5, .int (nI (n + 1))), (0, .ref (G.2.1 35)), (1, .int ra), (2, .int x2), (3, .long x3)]) hC.x hC.b dX10_closes_160 hl (k := 4) rfl (nI_succ _).symm (by decide) rfl (fun ls hl => ?_)
              refine lv_goto (tgt := 7) hC.x hC.b dX10_closes_163 (by decide) ?_
              exact ih_7 x2 x3 (n + 1) s_174 t_114 (by omega) (by exact (by rw [es_175]; exact KM.u71 (KM.fr hi0_7 f_118 (by first | omega | (dsimp only; omega) | exact fun q => q) (by first | omega | (dsimp only; omega) | exact fun q => q) (by first | omega | (dsimp only; omega) | exact fun q => q) (by first | omega | (dsimp only; omega))) (by decide))) (by first | omega | assumption) (by first | exact CntR.p hi2_7 (pm_mk (K6.mr hi3_7 (by intro k h1 h2; first | omega | (dsimp only at h2; omega)) (by omega)) ⟨by omega, by omega, by omega, by omega⟩ (by assumption)) (by assumption) | exact CntR.q hi2_7 (qm_0 (K6.mr hi3_7 (by intro k h1 h2; first | omega | (dsimp only at h2; omega)) (by omega)) (by rintro ⟨h1, h2, h3, h4⟩; omega)) | exact CntR.q hi2_7 (qm_1 (K6.mr hi3_7 (by intro k h1 h2; first | omega | (dsimp only at h2; omega)) (by omega)) (by assumption)) | (exfalso; omega)) (by rw [es_175]; exact MRel.up ((MRel.tr hi3_7 (MRel.mgc f_118))) (by omega) (by first | omega | (dsimp only; omega))) _ _ _ hR hS (lv_sub hl [1, 2, 3, 4, 0] rfl)
        · skip
          have rd_225 : (s1 36 n).toInt = (σ 36 n).toInt := congrArg Int32.toInt (show s1 36 n = σ 36 n from congrFun (hi3_7.1 36 (by omega) (by first | omega | (dsimp only; omega) | (intro h; exact h))) n)
          refine bz_eq (tgt := 47) (a := 0) (b := 0) hC.x hC.b rfl rfl dX10_closes_26 (by decide) (fun _ => ?_) (fun c_226 => absurd c_226 (by decide))
          refine lv_iconst (v := 0) hC.x hC.b dX10_closes_47 (by decide) ?_
          refine zast hC hK hG hR hS (fun _ => ct_m_present G _ _) (nI_T n (by omega)) (by omega) (by omega) (Int.toNat_natCast _) (Or.inl rfl) dX10_closes_48 (fun s_227 es_228 H locs hR hS => ?_)
          refine lv_aload_n hC.x hC.b dX10_closes_49 rfl (lv_at hl 0 rfl) ?_
          refine rget hC hK hR (ct_model G _ _) rfl uin_X10 48 (by decide) TF_X10_126 rfl dX10_closes_50 ?_
          refine lv_iload hC.x hC.b dX10_closes_53 (lv_at hl 4 rfl) ?_
          refine zald hC hK hR (ct_m_present G _ _) (nI_T n (by omega)) (by omega) (by omega) (Int.toNat_natCast _) dX10_closes_55 ?_
          have rd_229 : (s_227 71 n).toInt = 0 := (congrArg Int32.toInt (show s_227 71 n = (0 : Int32) from (by rw [es_228]; exact up2_s))).trans (by decide)
          refine bz_ne (tgt := 62) (a := (s_227 71 n).toInt) (b := 0) hC.x hC.b rfl rfl dX10_closes_56 (by decide) (fun c_230 => ?_) (fun c_230 => ?_)
          · skip
            obtain ⟨x_231, ex_232⟩ : ∃ y : Int32, y = x2 + 1 := ⟨_, rfl⟩
            refine lv_iinc (v := x_231) (lv' := [(2, .int x_231), (0, .ref (G.2.1 35)), (1, .int ra), (3, .long x3), (5, .int (nI n))]) hC.x hC.b dX10_closes_62 hl (k := 2) rfl ex_232.symm (by decide) rfl (fun ls hl => ?_)
            refine lv_aload_n hC.x hC.b dX10_closes_65 rfl (lv_at hl 1 rfl) ?_
            refine rget hC hK hR (ct_model G _ _) rfl uin_X10 22 (by decide) TF_X10_77 rfl dX10_closes_66 ?_
            refine lv_aload_n hC.x hC.b dX10_closes_69 rfl (lv_at hl 1 rfl) ?_
            refine lv_aload_n hC.x hC.b dX10_closes_70 rfl (lv_at hl 1 rfl) ?_
            refine rget hC hK hR (ct_model G _ _) rfl uin_X10 29 (by decide) TF_X10_137 rfl dX10_closes_71 ?_
            have rd_233 : (s_227 35 29).toInt = (σ 35 29).toInt := congrArg Int32.toInt (Eq.trans (show s_227 35 29 = s1 35 29 from (by rw [es_228]; exact up2_o (by omega))) (show s1 35 29 = σ 35 29 from hi3_7.2 29 (by first | omega | (dsimp only; omega))))
            refine lv_iload hC.x hC.b dX10_closes_74 (lv_at hl 4 rfl) ?_
            have av_234 : (nI n).toInt = (n : Int) := (nI_T n (by omega))
            refine goip (runV (As := [.int (s_227 35 29), .int (nI n)]) (rest := [.ref (G.2.1 58)]) hC hK hR hl.1 (c_X10_at l hG s_227 t1 (s_227 35 29) (((s_227 35 29).toInt).toNat) (by first | rfl | (rw [show (s_227 35 29).toInt = (s_227 35 29).toInt from rfl]; done) | (rw [show (s_227 35 29).toInt = (s_227 35 29).toInt from rfl]; exact rfl)) (nI n) n (by first | rfl | (rw [show (nI n).toInt = (n : Int) from (nI_T n (by omega))]; done) | (rw [show (nI n).toInt = (n : Int) from (nI_T n (by omega))]; exact (Int.toNat_natCast _))) (by omega) (by omega)) (call_b hC.ts TC_X10_at TN_X10 TM_X10_140 hd_X10_at ⟨Nat.le_of_ble_eq_true rfl, Nat.le_of_ble_eq_true rfl⟩) TI_X10_at TS_X10_at (ct_model G _ _) rfl rfl rfl (Nat.le_of_ble_eq_true rfl) dX10_closes_76 ⟨Nat.le_of_ble_eq_true rfl, Nat.le_of_ble_eq_true rfl⟩) hS (fun v_235 H locs w_236 hR hS => ?_)
            subst w_236
            refine lv_aload_n hC.x hC.b dX10_closes_79 rfl (lv_at hl 1 rfl) ?_
            refine rget hC hK hR (ct_model G _ _) rfl uin_X10 43 (by decide) TF_X10_158 rfl dX10_closes_80 ?_
            have rd_237 : (s_227 35 43).toInt = (s1 35 43).toInt := congrArg Int32.toInt (show s_227 35 43 = s1 35 43 from (by rw [es_228]; exact up2_o (by omega)))
            refine lv_aload_n hC.x hC.b dX10_closes_83 rfl (lv_at hl 1 rfl) ?_
            refine rget hC hK hR (ct_model G _ _) rfl uin_X10 6 (by decide) TF_X10_29 rfl dX10_closes_84 ?_
            refine lv_iload hC.x hC.b dX10_closes_87 (lv_at hl 4 rfl) ?_
            refine ald hC hK hR (ct_m_setting G _ _) (nI_T n (by omega)) (by omega) (by omega) (Int.toNat_natCast _) dX10_closes_89 ?_
            have rd_238 : (s_227 42 n).toInt = (σ 42 n).toInt := congrArg Int32.toInt (Eq.trans (show s_227 42 n = s1 42 n from (by rw [es_228]; exact up2_o (by omega))) (show s1 42 n = σ 42 n from congrFun (hi3_7.1 42 (by omega) (by first | omega | (dsimp only; omega) | (intro h; exact h))) n))
            refine lv_isub hC.x hC.b dX10_closes_90 ?_
            refine lv_aload_n hC.x hC.b dX10_closes_91 rfl (lv_at hl 1 rfl) ?_
            refine rget hC hK hR (ct_model G _ _) rfl uin_X10 6 (by decide) TF_X10_29 rfl dX10_closes_92 ?_
            refine lv_iload_n hC.x hC.b dX10_closes_95 rfl (lv_at hl 2 rfl) ?_
            refine ald hC hK hR (ct_m_setting G _ _) rfl (by omega) (by omega) hp_rq dX10_closes_96 ?_
            have rd_239 : (s_227 42 rq).toInt = (σ 42 rq).toInt := congrArg Int32.toInt (Eq.trans (show s_227 42 rq = s1 42 rq from (by rw [es_228]; exact up2_o (by omega))) (show s1 42 rq = σ 42 rq from congrFun (hi3_7.1 42 (by omega) (by first | omega | (dsimp only; omega) | (intro h; exact h))) rq))
            refine lv_iadd hC.x hC.b dX10_closes_97 ?_
            refine ast hC hK hG hR hS (fun _ => ct_m_ds G _ _) (nI_T _ (by omega)) (by omega) (by omega) (Int.toNat_natCast _) dX10_closes_98 (fun s_240 es_241 H locs hR hS => ?_)
            refine lv_aload_n hC.x hC.b dX10_closes_99 rfl (lv_at hl 1 rfl) ?_
            refine rget hC hK hR (ct_model G _ _) rfl uin_X10 19 (by decide) TF_X10_68 rfl dX10_closes_100 ?_
            refine lv_aload_n hC.x hC.b dX10_closes_103 rfl (lv_at hl 1 rfl) ?_
            refine lv_aload_n hC.x hC.b dX10_closes_104 rfl (lv_at hl 1 rfl) ?_
            refine rget hC hK hR (ct_model G _ _) rfl uin_X10 29 (by decide) TF_X10_137 rfl dX10_closes_105 ?_
            have rd_242 : (s_240 35 29).toInt = (σ 35 29).toInt := congrArg Int32.toInt (Eq.trans (show s_240 35 29 = s_227 35 29 from (by rw [es_241]; exact up2_o (by omega))) (Eq.trans (show s_227 35 29 = s1 35 29 from (by rw [es_228]; exact up2_o (by omega))) (show s1 35 29 = σ 35 29 from hi3_7.2 29 (by first | omega | (dsimp only; omega)))))
            refine lv_iload hC.x hC.b dX10_closes_108 (lv_at hl 4 rfl) ?_
            have av_243 : (nI n).toInt = (n : Int) := (nI_T n (by omega))
            refine goip (runV (As := [.int (s_240 35 29), .int (nI n)]) (rest := [.ref (G.2.1 55)]) hC hK hR hl.1 (c_X10_at l hG s_240 t1 (s_240 35 29) (((s_240 35 29).toInt).toNat) (by first | rfl | (rw [show (s_240 35 29).toInt = (s_240 35 29).toInt from rfl]; done) | (rw [show (s_240 35 29).toInt = (s_240 35 29).toInt from rfl]; exact rfl)) (nI n) n (by first | rfl | (rw [show (nI n).toInt = (n : Int) from (nI_T n (by omega))]; done) | (rw [show (nI n).toInt = (n : Int) from (nI_T n (by omega))]; exact (Int.toNat_natCast _))) (by omega) (by omega)) (call_b hC.ts TC_X10_at TN_X10 TM_X10_140 hd_X10_at ⟨Nat.le_of_ble_eq_true rfl, Nat.le_of_ble_eq_true rfl⟩) TI_X10_at TS_X10_at (ct_model G _ _) rfl rfl rfl (Nat.le_of_ble_eq_true rfl) dX10_closes_110 ⟨Nat.le_of_ble_eq_true rfl, Nat.le_of_ble_eq_true rfl⟩) hS (fun v_244 H locs w_245 hR hS => ?_)
            subst w_245
            refine lv_aload_n hC.x hC.b dX10_closes_113 rfl (lv_at hl 1 rfl) ?_
            refine lv_iload hC.x hC.b dX10_closes_114 (lv_at hl 4 rfl) ?_
            have rd_246 : (s_240 36 n).toInt = (σ 36 n).toInt := congrArg Int32.toInt (Eq.trans (show s_240 36 n = s_227 36 n from (by rw [es_241]; exact up2_o (by omega))) (Eq.trans (show s_227 36 n = s1 36 n from (by rw [es_228]; exact up2_o (by omega))) (show s1 36 n = σ 36 n from congrFun (hi3_7.1 36 (by omega) (by first | omega | (dsimp only; omega) | (intro h; exact h))) n)))
            have hcq := (show ClM s_240 from ClM.fr (S := (fun k => (41 ≤ k ∧ k ≤ 46 ∧ k ≠ 42 ∧ k ≠ 43) ∨ (52 ≤ k ∧ k ≤ 69) ∨ k = 71)) (J := (fun j => j = 37 ∨ j = 41 ∨ j = 43 ∨ j = 44)) (σ1 := s_240) hcl (by rw [es_241]; exact MRel.up ((by rw [es_228]; exact MRel.up (hi3_7) (by omega) (by first | omega | (dsimp only; omega)))) (by omega) (by first | omega | (dsimp only; omega))) (by first | omega | (dsimp only; omega)) (by first | omega | (dsimp only; omega))) n (by omega) ⟨by omega, by omega⟩
            have av_247 : (nI n).toInt = (n : Int) := (nI_T n (by omega))
            have rd_248 : (s_240 35 29).toInt = (σ 35 29).toInt := congrArg Int32.toInt (Eq.trans (show s_240 35 29 = s_227 35 29 from (by rw [es_241]; exact up2_o (by omega))) (Eq.trans (show s_227 35 29 = s1 35 29 from (by rw [es_228]; exact up2_o (by omega))) (show s1 35 29 = σ 35 29 from hi3_7.2 29 (by first | omega | (dsimp only; omega)))))
            have rd_249 : (s_240 37 n).toInt = (σ 37 n).toInt := congrArg Int32.toInt (Eq.trans (show s_240 37 n = s_227 37 n from (by rw [es_241]; exact up2_o (by omega))) (Eq.trans (show s_227 37 n = s1 37 n from (by rw [es_228]; exact up2_o (by omega))) (show s1 37 n = σ 37 n from congrFun (hi3_7.1 37 (by omega) (by first | omega | (dsimp only; omega) | (intro h; exact h))) n)))
            refine goi (runV (As := [.int (nI n)]) (rest := [.int (nI (24 * (((s_240 35 29).toInt).toNat) + n)), .ref (G.2.1 55)]) hC hK hR hl.1 (c_X10_foretold l hG s_240 t1 (nI n) n (by first | rfl | (rw [show (nI n).toInt = (n : Int) from (nI_T n (by omega))]; done) | (rw [show (nI n).toInt = (n : Int) from (nI_T n (by omega))]; exact (Int.toNat_natCast _))) (by first | assumption | omega) (by omega) (by first | assumption | omega)) (call_b hC.ts TC_X10_foretold TN_X10 TM_X10_210 hd_X10_foretold ⟨Nat.le_of_ble_eq_true rfl, Nat.le_of_ble_eq_true rfl⟩) TI_X10_foretold TS_X10_foretold (ct_model G _ _) rfl rfl rfl (Nat.le_of_ble_eq_true rfl) dX10_closes_116 ⟨Nat.le_of_ble_eq_true rfl, Nat.le_of_ble_eq_true rfl⟩) hS (fun v_250 s_252 t_253 H locs w_251 hR hS => ?_)
            try dsimp only [po_X10_foretold] at w_251
            have f_254 := w_251
            refine ast hC hK hG hR hS (fun _ => ct_m_fs G _ _) (nI_T _ (by omega)) (by omega) (by omega) (Int.toNat_natCast _) dX10_closes_119 (fun s_255 es_256 H locs hR hS => ?_)
            refine lv_aload_n hC.x hC.b dX10_closes_120 rfl (lv_at hl 1 rfl) ?_
            refine rget hC hK hR (ct_model G _ _) rfl uin_X10 21 (by decide) TF_X10_74 rfl dX10_closes_121 ?_
            refine lv_aload_n hC.x hC.b dX10_closes_124 rfl (lv_at hl 1 rfl) ?_
            refine lv_aload_n hC.x hC.b dX10_closes_125 rfl (lv_at hl 1 rfl) ?_
            refine rget hC hK hR (ct_model G _ _) rfl uin_X10 29 (by decide) TF_X10_137 rfl dX10_closes_126 ?_
            have rd_257 : (s_255 35 29).toInt = (σ 35 29).toInt := congrArg Int32.toInt (Eq.trans (show s_255 35 29 = s_252 35 29 from (by rw [es_256]; exact up2_o (by omega))) (Eq.trans (show s_252 35 29 = s_240 35 29 from f_254.2 29 (by first | omega | (dsimp only; omega))) (Eq.trans (show s_240 35 29 = s_227 35 29 from (by rw [es_241]; exact up2_o (by omega))) (Eq.trans (show s_227 35 29 = s1 35 29 from (by rw [es_228]; exact up2_o (by omega))) (show s1 35 29 = σ 35 29 from hi3_7.2 29 (by first | omega | (dsimp only; omega)))))))
            refine lv_iload hC.x hC.b dX10_closes_129 (lv_at hl 4 rfl) ?_
            have av_258 : (nI n).toInt = (n : Int) := (nI_T n (by omega))
            refine goip (runV (As := [.int (s_255 35 29), .int (nI n)]) (rest := [.ref (G.2.1 57)]) hC hK hR hl.1 (c_X10_at l hG s_255 t_253 (s_255 35 29) (((s_255 35 29).toInt).toNat) (by first | rfl | (rw [show (s_255 35 29).toInt = (s_255 35 29).toInt from rfl]; done) | (rw [show (s_255 35 29).toInt = (s_255 35 29).toInt from rfl]; exact rfl)) (nI n) n (by first | rfl | (rw [show (nI n).toInt = (n : Int) from (nI_T n (by omega))]; done) | (rw [show (nI n).toInt = (n : Int) from (nI_T n (by omega))]; exact (Int.toNat_natCast _))) (by omega) (by omega)) (call_b hC.ts TC_X10_at TN_X10 TM_X10_140 hd_X10_at ⟨Nat.le_of_ble_eq_true rfl, Nat.le_of_ble_eq_true rfl⟩) TI_X10_at TS_X10_at (ct_model G _ _) rfl rfl rfl (Nat.le_of_ble_eq_true rfl) dX10_closes_131 ⟨Nat.le_of_ble_eq_true rfl, Nat.le_of_ble_eq_true rfl⟩) hS (fun v_259 H locs w_260 hR hS => ?_)
            subst w_260
            refine lv_aload_n hC.x hC.b dX10_closes_134 rfl (lv_at hl 1 rfl) ?_
            refine lv_iload hC.x hC.b dX10_closes_135 (lv_at hl 4 rfl) ?_
            have rd_261 : (s_255 36 n).toInt = (σ 36 n).toInt := congrArg Int32.toInt (Eq.trans (show s_255 36 n = s_252 36 n from (by rw [es_256]; exact up2_o (by omega))) (Eq.trans (show s_252 36 n = s_240 36 n from congrFun (f_254.1 36 (by omega) (by first | omega | (dsimp only; omega) | (intro h; exact h))) n) (Eq.trans (show s_240 36 n = s_227 36 n from (by rw [es_241]; exact up2_o (by omega))) (Eq.trans (show s_227 36 n = s1 36 n from (by rw [es_228]; exact up2_o (by omega))) (show s1 36 n = σ 36 n from congrFun (hi3_7.1 36 (by omega) (by first | omega | (dsimp only; omega) | (intro h; exact h))) n)))))
            have hcq := (show ClM s_255 from ClM.fr (S := (fun k => (41 ≤ k ∧ k ≤ 46 ∧ k ≠ 42 ∧ k ≠ 43) ∨ (52 ≤ k ∧ k ≤ 69) ∨ k = 71)) (J := (fun j => j = 37 ∨ j = 41 ∨ j = 43 ∨ j = 44)) (σ1 := s_255) hcl (by rw [es_256]; exact MRel.up ((MRel.tr (by rw [es_241]; exact MRel.up ((by rw [es_228]; exact MRel.up (hi3_7) (by omega) (by first | omega | (dsimp only; omega)))) (by omega) (by first | omega | (dsimp only; omega))) (MRel.mfc f_254))) (by omega) (by first | omega | (dsimp only; omega))) (by first | omega | (dsimp only; omega)) (by first | omega | (dsimp only; omega))) n (by omega) ⟨by omega, by omega⟩
            have av_262 : (nI n).toInt = (n : Int) := (nI_T n (by omega))
            have rd_263 : (s_255 35 29).toInt = (σ 35 29).toInt := congrArg Int32.toInt (Eq.trans (show s_255 35 29 = s_252 35 29 from (by rw [es_256]; exact up2_o (by omega))) (Eq.trans (show s_252 35 29 = s_240 35 29 from f_254.2 29 (by first | omega | (dsimp only; omega))) (Eq.trans (show s_240 35 29 = s_227 35 29 from (by rw [es_241]; exact up2_o (by omega))) (Eq.trans (show s_227 35 29 = s1 35 29 from (by rw [es_228]; exact up2_o (by omega))) (show s1 35 29 = σ 35 29 from hi3_7.2 29 (by first | omega | (dsimp only; omega)))))))
            have rd_264 : (s_255 37 n).toInt = (σ 37 n).toInt := congrArg Int32.toInt (Eq.trans (show s_255 37 n = s_252 37 n from (by rw [es_256]; exact up2_o (by omega))) (Eq.trans (show s_252 37 n = s_240 37 n from congrFun (f_254.1 37 (by omega) (by first | omega | (dsimp only; omega) | (intro h; exact h))) n) (Eq.trans (show s_240 37 n = s_227 37 n from (by rw [es_241]; exact up2_o (by omega))) (Eq.trans (show s_227 37 n = s1 37 n from (by rw [es_228]; exact up2_o (by omega))) (show s1 37 n = σ 37 n from congrFun (hi3_7.1 37 (by omega) (by first | omega | (dsimp only; omega) | (intro h; exact h))) n)))))
            refine goi (runV (As := [.int (nI n)]) (rest := [.int (nI (24 * (((s_255 35 29).toInt).toNat) + n)), .ref (G.2.1 57)]) hC hK hR hl.1 (c_X10_full l hG s_255 t_253 (nI n) n (by first | rfl | (rw [show (nI n).toInt = (n : Int) from (nI_T n (by omega))]; done) | (rw [show (nI n).toInt = (n : Int) from (nI_T n (by omega))]; exact (Int.toNat_natCast _))) (by first | assumption | omega) (by omega) (by first | assumption | omega) (by exact (by rw [es_256]; exact KM.up (KM.fr (by rw [es_241]; exact KM.up (by rw [es_228]; exact KM.u71 hi0_7 (by decide)) (by omega)) f_254 (by first | omega | (dsimp only; omega) | exact fun q => q) (by first | omega | (dsimp only; omega) | exact fun q => q) (by first | omega | (dsimp only; omega) | exact fun q => q) (by first | omega | (dsimp only; omega))) (by omega)))) (call_b hC.ts TC_X10_full TN_X10 TM_X10_225 hd_X10_full ⟨Nat.le_of_ble_eq_true rfl, Nat.le_of_ble_eq_true rfl⟩) TI_X10_full TS_X10_full (ct_model G _ _) rfl rfl rfl (Nat.le_of_ble_eq_true rfl) dX10_closes_137 ⟨Nat.le_of_ble_eq_true rfl, Nat.le_of_ble_eq_true rfl⟩) hS (fun v_265 s_267 t_268 H locs w_266 hR hS => ?_)
            try dsimp only [po_X10_full] at w_266
            have f_269 := w_266
            refine ast hC hK hG hR hS (fun _ => ct_m_ws G _ _) (nI_T _ (by omega)) (by omega) (by omega) (Int.toNat_natCast _) dX10_closes_140 (fun s_270 es_271 H locs hR hS => ?_)
            refine lv_lload_n hC.x hC.b dX10_closes_141 rfl (lv_at hl 3 rfl) ?_
            refine lv_aload_n hC.x hC.b dX10_closes_142 rfl (lv_at hl 1 rfl) ?_
            refine rget hC hK hR (ct_model G _ _) rfl uin_X10 21 (by decide) TF_X10_74 rfl dX10_closes_143 ?_
            refine lv_aload_n hC.x hC.b dX10_closes_146 rfl (lv_at hl 1 rfl) ?_
            refine lv_aload_n hC.x hC.b dX10_closes_147 rfl (lv_at hl 1 rfl) ?_
            refine rget hC hK hR (ct_model G _ _) rfl uin_X10 29 (by decide) TF_X10_137 rfl dX10_closes_148 ?_
            have rd_272 : (s_270 35 29).toInt = (σ 35 29).toInt := congrArg Int32.toInt (Eq.trans (show s_270 35 29 = s_267 35 29 from (by rw [es_271]; exact up2_o (by omega))) (Eq.trans (show s_267 35 29 = s_255 35 29 from f_269.2 29 (by first | omega | (dsimp only; omega))) (Eq.trans (show s_255 35 29 = s_252 35 29 from (by rw [es_256]; exact up2_o (by omega))) (Eq.trans (show s_252 35 29 = s_240 35 29 from f_254.2 29 (by first | omega | (dsimp only; omega))) (Eq.trans (show s_240 35 29 = s_227 35 29 from (by rw [es_241]; exact up2_o (by omega))) (Eq.trans (show s_227 35 29 = s1 35 29 from (by rw [es_228]; exact up2_o (by omega))) (show s1 35 29 = σ 35 29 from hi3_7.2 29 (by first | omega | (dsimp only; omega)))))))))
            refine lv_iload hC.x hC.b dX10_closes_151 (lv_at hl 4 rfl) ?_
            have av_273 : (nI n).toInt = (n : Int) := (nI_T n (by omega))
            refine goip (runV (As := [.int (s_270 35 29), .int (nI n)]) (rest := [.ref (G.2.1 57), .long x3]) hC hK hR hl.1 (c_X10_at l hG s_270 t_268 (s_270 35 29) (((s_270 35 29).toInt).toNat) (by first | rfl | (rw [show (s_270 35 29).toInt = (s_270 35 29).toInt from rfl]; done) | (rw [show (s_270 35 29).toInt = (s_270 35 29).toInt from rfl]; exact rfl)) (nI n) n (by first | rfl | (rw [show (nI n).toInt = (n : Int) from (nI_T n (by omega))]; done) | (rw [show (nI n).toInt = (n : Int) from (nI_T n (by omega))]; exact (Int.toNat_natCast _))) (by omega) (by omega)) (call_b hC.ts TC_X10_at TN_X10 TM_X10_140 hd_X10_at ⟨Nat.le_of_ble_eq_true rfl, Nat.le_of_ble_eq_true rfl⟩) TI_X10_at TS_X10_at (ct_model G _ _) rfl rfl rfl (Nat.le_of_ble_eq_true rfl) dX10_closes_153 ⟨Nat.le_of_ble_eq_true rfl, Nat.le_of_ble_eq_true rfl⟩) hS (fun v_274 H locs w_275 hR hS => ?_)
            subst w_275
            refine ald hC hK hR (ct_m_ws G _ _) (nI_T _ (by omega)) (by omega) (by omega) (Int.toNat_natCast _) dX10_closes_156 ?_
            refine lv_i2l hC.x hC.b dX10_closes_157 rfl ?_
            refine lv_ladd hC.x hC.b dX10_closes_158 ?_
            refine lv_topl (fun x_276 ex_277 => ?_)
            refine lv_lstore_n (lv' := [(3, .long x_276), (2, .int x_231), (0, .ref (G.2.1 35)), (1, .int ra), (5, .int (nI n))]) hC.x hC.b dX10_closes_159 rfl hl (by decide) rfl (fun ls hl => ?_)
            refine lv_iinc (v := nI (n + 1)) (lv' := [(5, .int (nI (n + 1))), (3, .long x_276), (2, .int x_231), (0, .ref (G.2.1 35)), (1, .int ra)]) hC.x hC.b dX10_closes_160 hl (k := 4) rfl (nI_succ _).symm (by decide) rfl (fun ls hl => ?_)
            refine lv_goto (tgt := 7) hC.x hC.b dX10_closes_163 (by decide) ?_
            exact ih_7 x_231 x_276 (n + 1) s_270 t_268 (by omega) (by exact (by rw [es_271]; exact KM.up (KM.fr (by rw [es_256]; exact KM.up (KM.fr (by rw [es_241]; exact KM.up (by rw [es_228]; exact KM.u71 hi0_7 (by decide)) (by omega)) f_254 (by first | omega | (dsimp only; omega) | exact fun q => q) (by first | omega | (dsimp only; omega) | exact fun q => q) (by first | omega | (dsimp only; omega) | exact fun q => q) (by first | omega | (dsimp only; omega))) (by omega)) f_269 (by first | omega | (dsimp only; omega) | exact fun q => q) (by first | omega | (dsimp only; omega) | exact fun q => q) (by first | omega | (dsimp only; omega) | exact fun q => q) (by first | omega | (dsimp only; omega))) (by omega))) (by first | omega | assumption) (by first | exact CntR.p hi2_7 (pm_mk (K6.mr hi3_7 (by intro k h1 h2; first | omega | (dsimp only at h2; omega)) (by omega)) ⟨by omega, by omega, by omega, by omega⟩ (by assumption)) (by assumption) | exact CntR.q hi2_7 (qm_0 (K6.mr hi3_7 (by intro k h1 h2; first | omega | (dsimp only at h2; omega)) (by omega)) (by rintro ⟨h1, h2, h3, h4⟩; omega)) | exact CntR.q hi2_7 (qm_1 (K6.mr hi3_7 (by intro k h1 h2; first | omega | (dsimp only at h2; omega)) (by omega)) (by assumption)) | (exfalso; omega)) (by rw [es_271]; exact MRel.up ((MRel.tr (by rw [es_256]; exact MRel.up ((MRel.tr (by rw [es_241]; exact MRel.up ((by rw [es_228]; exact MRel.up (hi3_7) (by omega) (by first | omega | (dsimp only; omega)))) (by omega) (by first | omega | (dsimp only; omega))) (MRel.mfc f_254))) (by omega) (by first | omega | (dsimp only; omega))) (MRel.mfc f_269))) (by omega) (by first | omega | (dsimp only; omega))) _ _ _ hR hS (lv_sub hl [3, 4, 2, 1, 0] rfl)
          · skip
            refine lv_goto (tgt := 160) hC.x hC.b dX10_closes_59 (by decide) ?_
            refine lv_iinc (v := nI (n + 1)) (lv' := [(5, .int (nI (n + 1))), (0, .ref (G.2.1 35)), (1, .int ra), (2, .int x2), (3, .long x3)]) hC.x hC.b dX10_closes_160 hl (k := 4) rfl (nI_succ _).symm (by decide) rfl (fun ls hl => ?_)
            refine lv_goto (tgt := 7) hC.x hC.b dX10_closes_163 (by decide) ?_
            exact ih_7 x2 x3 (n + 1) s_227 t1 (by omega) (by exact (by rw [es_228]; exact KM.u71 hi0_7 (by decide))) (by first | omega | assumption) (by first | exact CntR.p hi2_7 (pm_mk (K6.mr hi3_7 (by intro k h1 h2; first | omega | (dsimp only at h2; omega)) (by omega)) ⟨by omega, by omega, by omega, by omega⟩ (by assumption)) (by assumption) | exact CntR.q hi2_7 (qm_0 (K6.mr hi3_7 (by intro k h1 h2; first | omega | (dsimp only at h2; omega)) (by omega)) (by rintro ⟨h1, h2, h3, h4⟩; omega)) | exact CntR.q hi2_7 (qm_1 (K6.mr hi3_7 (by intro k h1 h2; first | omega | (dsimp only at h2; omega)) (by omega)) (by assumption)) | (exfalso; omega)) (by rw [es_228]; exact MRel.up (hi3_7) (by omega) (by first | omega | (dsimp only; omega))) _ _ _ hR hS (lv_sub hl [1, 2, 3, 4, 0] rfl)
  exact L_7 _ (0 : Int32) (0 : Int64) 0 σ τ (Nat.lt_succ_self _) (by exact hkm) (by first | omega | assumption) (by exact CntR.z) MRel.rf _ _ _ hR hS (lv_sub hl [3, 4, 2, 1, 0] rfl)

abbrev po4_X10_close (σ : SI) (τ : SL) : Int32 → SI × SL → Prop := fun v u => ((v = (-1)) ∧ (MRel (fun k => (41 ≤ k ∧ k ≤ 46 ∧ k ≠ 42 ∧ k ≠ 43) ∨ (52 ≤ k ∧ k ≤ 69) ∨ k = 71) (fun j => j = 29 ∨ j = 33 ∨ j = 37 ∨ j = 41 ∨ j = 43 ∨ j = 44) σ u.1) ∧ ((σ 35 29).toInt = 200) ∧ (u.1 = σ)) ∨ ((MRel (fun k => (41 ≤ k ∧ k ≤ 46 ∧ k ≠ 42 ∧ k ≠ 43) ∨ (52 ≤ k ∧ k ≤ 69) ∨ k = 71) (fun j => j = 29 ∨ j = 33 ∨ j = 37 ∨ j = 41 ∨ j = 43 ∨ j = 44) σ u.1) ∧ ((σ 35 29).toInt < 200) ∧ (KM u.1) ∧ ((u.1 35 29).toInt = (σ 35 29).toInt + 1) ∧ ((0 < (σ 35 33).toInt ∧ (u.1 35 33).toInt = max 0 ((σ 35 33).toInt - (σ 35 32).toInt)) ∨ ((σ 35 33).toInt ≤ 0 ∧ (u.1 35 33).toInt = min 0 ((σ 35 33).toInt + (σ 35 32).toInt))) ∧ (CMV σ v))
set_option maxRecDepth 100000 in
set_option maxHeartbeats 4000000 in
theorem c4_X10_close (l : Launch) {G : Gx} {A : Nat → Prop} (hG : GOk G A) (σ : SI) (τ : SL) (hnw : 0 ≤ (σ 35 29).toInt ∧ (σ 35 29).toInt ≤ 200) (hof : -1000000 ≤ (σ 35 33).toInt ∧ (σ 35 33).toInt ≤ 1000000) (hpc : 0 ≤ (σ 35 32).toInt ∧ (σ 35 32).toInt ≤ 3599) (hln : LnM σ) (hcl : ClM σ) (hkm : KM σ) : MI l G A 7 yX10_close cX10_close 4 (some .int) [.ref (G.2.1 35)] (σ, τ) (po4_X10_close σ τ ) := by
  refine met_of (own := RX10) (by decide +kernel) rfl [(0, .ref (G.2.1 35))] rfl (Nat.le_of_ble_eq_true rfl) ?_
  intro p e s m args below meth c ls hC hK hR hl
  have hS : va_S A s.heap s.heap [] := va_S.rf
  refine lv_aload_n hC.x hC.b dX10_close_0 rfl (lv_at hl 0 rfl) ?_
  refine rget hC hK hR (ct_model G _ _) rfl uin_X10 29 (by decide) TF_X10_137 rfl dX10_close_1 ?_
  refine lv_sipush (v := 200) hC.x hC.b dX10_close_4 (by decide) ?_
  refine bi_ne (tgt := 12) (a := (σ 35 29).toInt) (b := 200) hC.x hC.b rfl rfl dX10_close_7 (by decide) (fun c_1 => ?_) (fun c_1 => ?_)
  · skip
    refine lv_iconst (v := 0) hC.x hC.b dX10_close_12 (by decide) ?_
    refine lv_istore_n (lv' := [(1, .int (0 : Int32)), (0, .ref (G.2.1 35))]) hC.x hC.b dX10_close_13 rfl hl (by decide) rfl (fun ls hl => ?_)
    have L_14 : ∀ (F : Nat) (n : Nat) (s1 : SI), (24 - n) < F → (KM s1) → (n ≤ 24) → ((s1 35 29).toInt = (σ 35 29).toInt ∧ (s1 35 33).toInt = (σ 35 33).toInt) → (MRel (fun k => (41 ≤ k ∧ k ≤ 46 ∧ k ≠ 42 ∧ k ≠ 43) ∨ (52 ≤ k ∧ k ≤ 69) ∨ k = 71) (fun j => j = 29 ∨ j = 33 ∨ j = 37 ∨ j = 41 ∨ j = 43 ∨ j = 44) σ s1) → ∀ (H : Heap) (locs : List Loc) (ls : Array Slot), RepH G s1 τ H → va_S A s.heap H locs → lv_has ls 4 [(0, .ref (G.2.1 35)), (1, .int (nI n))] → W p l e (rmD 7) s m args below meth c H locs 0 0 (MQ below (va_Qi (po4_X10_close σ τ ) (BU G) A) args s 0 0 A) (F0 m 14 ls []) := by
      intro F
      induction F with
      | zero => intro n s1 hm; exact absurd hm (Nat.not_lt_zero _)
      | succ F ih_14 =>
        intro n s1 hm_14 hi0_14 hi1_14 hi2_14 hi3_14 H locs ls hR hS hl
        have hnI := nI_T n (by omega)
        refine lv_iload_n hC.x hC.b dX10_close_14 rfl (lv_at hl 1 rfl) ?_
        refine lv_bipush (v := 24) hC.x hC.b dX10_close_15 (by decide) ?_
        refine bi_ge (tgt := 56) (a := (n : Int)) (b := 24) hC.x hC.b (nI_T n (by omega)) rfl dX10_close_17 (by decide) (fun c_2 => ?_) (fun c_2 => ?_)
        · skip
          refine lv_aload_n hC.x hC.b dX10_close_56 rfl (lv_at hl 0 rfl) ?_
          refine goip (runV (As := []) (rest := []) hC hK hR hl.1 (c4_X10_root l hG s1 τ  ) (call_b hC.ts TC_X10_root TN_X10 TM_X10_228 hd_X10_root ⟨Nat.le_of_ble_eq_true rfl, Nat.le_of_ble_eq_true rfl⟩) TI_X10_root TS_X10_root (ct_model G _ _) rfl rfl rfl (Nat.le_of_ble_eq_true rfl) dX10_close_57 ⟨Nat.le_of_ble_eq_true rfl, Nat.le_of_ble_eq_true rfl⟩) hS (fun v_3 H locs w_4 hR hS => ?_)
          obtain ⟨f_5, f_6⟩ := w_4
          refine lv_istore_n (lv' := [(1, .int v_3), (0, .ref (G.2.1 35))]) hC.x hC.b dX10_close_60 rfl hl (by decide) rfl (fun ls hl => ?_)
          refine lv_aload_n hC.x hC.b dX10_close_61 rfl (lv_at hl 1 rfl) ?_
          refine rget hC hK hR (ct_model G _ _) rfl uin_X10 23 (by decide) TF_X10_80 rfl dX10_close_62 ?_
          refine lv_aload_n hC.x hC.b dX10_close_65 rfl (lv_at hl 1 rfl) ?_
          refine rget hC hK hR (ct_model G _ _) rfl uin_X10 29 (by decide) TF_X10_137 rfl dX10_close_66 ?_
          refine lv_iload_n hC.x hC.b dX10_close_69 rfl (lv_at hl 0 rfl) ?_
          refine ast hC hK hG hR hS (fun _ => ct_m_roots G _ _) rfl (by omega) (by omega) rfl dX10_close_70 (fun s_7 es_8 H locs hR hS => ?_)
          refine lv_aload_n hC.x hC.b dX10_close_71 rfl (lv_at hl 1 rfl) ?_
          refine rget hC hK hR (ct_model G _ _) rfl uin_X10 24 (by decide) TF_X10_83 rfl dX10_close_72 ?_
          refine lv_aload_n hC.x hC.b dX10_close_75 rfl (lv_at hl 1 rfl) ?_
          refine rget hC hK hR (ct_model G _ _) rfl uin_X10 29 (by decide) TF_X10_137 rfl dX10_close_76 ?_
          have rd_9 : (s_7 35 29).toInt = (s1 35 29).toInt := congrArg Int32.toInt (show s_7 35 29 = s1 35 29 from (by rw [es_8]; exact up2_o (by omega)))
          refine lv_iconst (v := 0) hC.x hC.b dX10_close_79 (by decide) ?_
          refine ast hC hK hG hR hS (fun _ => ct_m_presents G _ _) rfl (by omega) (by omega) rfl dX10_close_80 (fun s_10 es_11 H locs hR hS => ?_)
          refine lv_aload_n hC.x hC.b dX10_close_81 rfl (lv_at hl 1 rfl) ?_
          refine rget hC hK hR (ct_model G _ _) rfl uin_X10 27 (by decide) TF_X10_92 rfl dX10_close_82 ?_
          refine lv_aload_n hC.x hC.b dX10_close_85 rfl (lv_at hl 1 rfl) ?_
          refine rget hC hK hR (ct_model G _ _) rfl uin_X10 29 (by decide) TF_X10_137 rfl dX10_close_86 ?_
          have rd_12 : (s_10 35 29).toInt = (s1 35 29).toInt := congrArg Int32.toInt (Eq.trans (show s_10 35 29 = s_7 35 29 from (by rw [es_11]; exact up2_o (by omega))) (show s_7 35 29 = s1 35 29 from (by rw [es_8]; exact up2_o (by omega))))
          refine lv_aload_n hC.x hC.b dX10_close_89 rfl (lv_at hl 1 rfl) ?_
          refine rget hC hK hR (ct_model G _ _) rfl uin_X10 30 (by decide) TF_X10_98 rfl dX10_close_90 ?_
          have rd_13 : (s_10 35 30).toInt = (σ 35 30).toInt := congrArg Int32.toInt (Eq.trans (show s_10 35 30 = s_7 35 30 from (by rw [es_11]; exact up2_o (by omega))) (Eq.trans (show s_7 35 30 = s1 35 30 from (by rw [es_8]; exact up2_o (by omega))) (show s1 35 30 = σ 35 30 from hi3_14.2 30 (by first | omega | (dsimp only; omega)))))
          refine ast hC hK hG hR hS (fun _ => ct_m_parts G _ _) rfl (by omega) (by omega) rfl dX10_close_93 (fun s_14 es_15 H locs hR hS => ?_)
          have L_109 : ∀ (x2 : Int32) (s5 : SI) (t5 : SL), (KM s5) → ((s5 35 29).toInt = (σ 35 29).toInt ∧ (s5 35 33).toInt = (σ 35 33).toInt) → (CMV σ x2) → (MRel (fun k => (41 ≤ k ∧ k ≤ 46 ∧ k ≠ 42 ∧ k ≠ 43) ∨ (52 ≤ k ∧ k ≤ 69) ∨ k = 71) (fun j => j = 29 ∨ j = 33 ∨ j = 37 ∨ j = 41 ∨ j = 43 ∨ j = 44) σ s5) → ∀ (H : Heap) (locs : List Loc) (ls : Array Slot), RepH G s5 t5 H → va_S A s.heap H locs → lv_has ls 4 [(0, .ref (G.2.1 35)), (2, .int x2)] → W p l e (rmD 7) s m args below meth c H locs 0 0 (MQ below (va_Qi (po4_X10_close σ τ ) (BU G) A) args s 0 0 A) (F0 m 109 ls []) := by
            intro x2 s5 t5 hi0_109 hi1_109 hi2_109 hi3_109 H locs ls hR hS hl
            refine lv_aload_n hC.x hC.b dX10_close_109 rfl (lv_at hl 0 rfl) ?_
            refine rget hC hK hR (ct_model G _ _) rfl uin_X10 33 (by decide) TF_X10_235 rfl dX10_close_110 ?_
            refine bz_ge (tgt := 124) (a := (s5 35 33).toInt) (b := 0) hC.x hC.b rfl rfl dX10_close_113 (by decide) (fun c_16 => ?_) (fun c_16 => ?_)
            · skip
              refine lv_aload_n hC.x hC.b dX10_close_124 rfl (lv_at hl 0 rfl) ?_
              refine rget hC hK hR (ct_model G _ _) rfl uin_X10 33 (by decide) TF_X10_235 rfl dX10_close_125 ?_
              refine lv_istore_n (lv' := [(3, .int (s5 35 33)), (0, .ref (G.2.1 35)), (2, .int x2)]) hC.x hC.b dX10_close_128 rfl hl (by decide) rfl (fun ls hl => ?_)
              refine lv_iload_n hC.x hC.b dX10_close_129 rfl (lv_at hl 0 rfl) ?_
              refine lv_aload_n hC.x hC.b dX10_close_130 rfl (lv_at hl 1 rfl) ?_
              refine rget hC hK hR (ct_model G _ _) rfl uin_X10 32 (by decide) TF_X10_105 rfl dX10_close_131 ?_
              have rd_17 : (s5 35 32).toInt = (σ 35 32).toInt := congrArg Int32.toInt (show s5 35 32 = σ 35 32 from hi3_109.2 32 (by first | omega | (dsimp only; omega)))
              refine bi_ge (tgt := 141) (a := (s5 35 33).toInt) (b := (s5 35 32).toInt) hC.x hC.b rfl rfl dX10_close_134 (by decide) (fun c_18 => ?_) (fun c_18 => ?_)
              · skip
                refine lv_aload_n hC.x hC.b dX10_close_141 rfl (lv_at hl 1 rfl) ?_
                refine rget hC hK hR (ct_model G _ _) rfl uin_X10 32 (by decide) TF_X10_105 rfl dX10_close_142 ?_
                have rd_19 : (s5 35 32).toInt = (σ 35 32).toInt := congrArg Int32.toInt (show s5 35 32 = σ 35 32 from hi3_109.2 32 (by first | omega | (dsimp only; omega)))
                refine lv_istore_n (lv' := [(3, .int (s5 35 32)), (0, .ref (G.2.1 35)), (2, .int x2)]) hC.x hC.b dX10_close_145 rfl hl (by decide) rfl (fun ls hl => ?_)
                refine lv_aload_n hC.x hC.b dX10_close_146 rfl (lv_at hl 1 rfl) ?_
                refine lv_dup hC.x hC.b dX10_close_147 rfl ?_
                refine rget hC hK hR (ct_model G _ _) rfl uin_X10 33 (by decide) TF_X10_235 rfl dX10_close_148 ?_
                refine lv_aload_n hC.x hC.b dX10_close_151 rfl (lv_at hl 1 rfl) ?_
                refine rget hC hK hR (ct_model G _ _) rfl uin_X10 33 (by decide) TF_X10_235 rfl dX10_close_152 ?_
                refine bz_ge (tgt := 163) (a := (s5 35 33).toInt) (b := 0) hC.x hC.b rfl rfl dX10_close_155 (by decide) (fun c_20 => ?_) (fun c_20 => ?_)
                · skip
                  refine lv_iload_n hC.x hC.b dX10_close_163 rfl (lv_at hl 0 rfl) ?_
                  refine lv_isub hC.x hC.b dX10_close_164 ?_
                  have pr_21 : ((s5 35 33) - (s5 35 32)).toInt = ((s5 35 33).toInt - (s5 35 32).toInt) := subI rfl rfl (by omega) (by omega)
                  refine rputi hC hK hG hR hS (ct_model G _ _) rfl uin_X10 tyX10 tyX10_ok nmX10 33 (by decide) TF_X10_235 rfl (Or.inl rfl) (Nat.le_of_ble_eq_true rfl) rfl (ct_model G _ _) dX10_close_165 (fun s_23 es_22 H locs hR hS => ?_)
                  refine lv_aload_n hC.x hC.b dX10_close_168 rfl (lv_at hl 1 rfl) ?_
                  refine rget hC hK hR (ct_model G _ _) rfl uin_X10 26 (by decide) TF_X10_89 rfl dX10_close_169 ?_
                  refine lv_aload_n hC.x hC.b dX10_close_172 rfl (lv_at hl 1 rfl) ?_
                  refine rget hC hK hR (ct_model G _ _) rfl uin_X10 29 (by decide) TF_X10_137 rfl dX10_close_173 ?_
                  have rd_24 : (s_23 35 29).toInt = (s5 35 29).toInt := congrArg Int32.toInt (show s_23 35 29 = s5 35 29 from (by rw [es_22]; exact up2_n (by omega)))
                  refine lv_aload_n hC.x hC.b dX10_close_176 rfl (lv_at hl 1 rfl) ?_
                  refine rget hC hK hR (ct_model G _ _) rfl uin_X10 33 (by decide) TF_X10_235 rfl dX10_close_177 ?_
                  have rd_25 : (s_23 35 33).toInt = ((s5 35 33) - (s5 35 32)).toInt := congrArg Int32.toInt (show s_23 35 33 = ((s5 35 33) - (s5 35 32)) from (by rw [es_22]; exact up2_s))
                  refine ast hC hK hG hR hS (fun _ => ct_m_offs G _ _) rfl (by omega) (by omega) rfl dX10_close_180 (fun s_26 es_27 H locs hR hS => ?_)
                  refine lv_aload_n hC.x hC.b dX10_close_181 rfl (lv_at hl 1 rfl) ?_
                  refine lv_dup hC.x hC.b dX10_close_182 rfl ?_
                  refine rget hC hK hR (ct_model G _ _) rfl uin_X10 29 (by decide) TF_X10_137 rfl dX10_close_183 ?_
                  have rd_28 : (s_26 35 29).toInt = (s5 35 29).toInt := congrArg Int32.toInt (Eq.trans (show s_26 35 29 = s_23 35 29 from (by rw [es_27]; exact up2_o (by omega))) (show s_23 35 29 = s5 35 29 from (by rw [es_22]; exact up2_n (by omega))))
                  refine lv_iconst (v := 1) hC.x hC.b dX10_close_186 (by decide) ?_
                  refine lv_iadd hC.x hC.b dX10_close_187 ?_
                  have pr_29 : ((s_26 35 29) + (1 : Int32)).toInt = ((s_26 35 29).toInt + 1) := addI rfl rfl (by omega) (by omega)
                  refine rputi hC hK hG hR hS (ct_model G _ _) rfl uin_X10 tyX10 tyX10_ok nmX10 29 (by decide) TF_X10_137 rfl (Or.inl rfl) (Nat.le_of_ble_eq_true rfl) rfl (ct_model G _ _) dX10_close_188 (fun s_31 es_30 H locs hR hS => ?_)
                  refine lv_iload_n hC.x hC.b dX10_close_191 rfl (lv_at hl 2 rfl) ?_
                  have rd_32 : (s_31 35 29).toInt = ((s_26 35 29) + (1 : Int32)).toInt := congrArg Int32.toInt (show s_31 35 29 = ((s_26 35 29) + (1 : Int32)) from (by rw [es_30]; exact up2_s))
                  have rd_33 : (s_31 35 33).toInt = ((s5 35 33) - (s5 35 32)).toInt := congrArg Int32.toInt (Eq.trans (show s_31 35 33 = s_26 35 33 from (by rw [es_30]; exact up2_n (by omega))) (Eq.trans (show s_26 35 33 = s_23 35 33 from (by rw [es_27]; exact up2_o (by omega))) (show s_23 35 33 = ((s5 35 33) - (s5 35 32)) from (by rw [es_22]; exact up2_s))))
                  exact reti hC hK hR hS (by first | exact Or.inl (⟨by subst es_30; subst es_27; subst es_22; (first | rfl | omega), by exact (by rw [es_30]; exact MRel.upm ((by rw [es_27]; exact MRel.up ((by rw [es_22]; exact MRel.upm (hi3_109) (by first | omega | (dsimp only; omega)))) (by omega) (by first | omega | (dsimp only; omega)))) (by first | omega | (dsimp only; omega))), by subst es_30; subst es_27; subst es_22; (first | omega | assumption), by subst es_30; subst es_27; subst es_22; (rfl)⟩) | exact Or.inr ((⟨by exact (by rw [es_30]; exact MRel.upm ((by rw [es_27]; exact MRel.up ((by rw [es_22]; exact MRel.upm (hi3_109) (by first | omega | (dsimp only; omega)))) (by omega) (by first | omega | (dsimp only; omega)))) (by first | omega | (dsimp only; omega))), by subst es_30; subst es_27; subst es_22; (first | omega | assumption), by exact (by rw [es_30]; exact KM.u35 (by rw [es_27]; exact KM.up (by rw [es_22]; exact KM.u35 hi0_109 (by omega)) (by omega)) (by omega)), by first | omega | (dsimp only; omega), by first | omega | (dsimp only; omega), by assumption⟩)) | exact False.elim (by omega)) dX10_close_192
                · skip
                  refine lv_iload_n hC.x hC.b dX10_close_158 rfl (lv_at hl 0 rfl) ?_
                  refine lv_ineg hC.x hC.b dX10_close_159 ?_
                  have pr_34 : (-(s5 35 32)).toInt = (-((s5 35 32).toInt)) := negI rfl (by omega)
                  refine lv_goto (tgt := 164) hC.x hC.b dX10_close_160 (by decide) ?_
                  refine lv_isub hC.x hC.b dX10_close_164 ?_
                  have pr_35 : ((s5 35 33) - (-(s5 35 32))).toInt = ((s5 35 33).toInt - (-((s5 35 32).toInt))) := subI rfl pr_34 (by omega) (by omega)
                  refine rputi hC hK hG hR hS (ct_model G _ _) rfl uin_X10 tyX10 tyX10_ok nmX10 33 (by decide) TF_X10_235 rfl (Or.inl rfl) (Nat.le_of_ble_eq_true rfl) rfl (ct_model G _ _) dX10_close_165 (fun s_37 es_36 H locs hR hS => ?_)
                  refine lv_aload_n hC.x hC.b dX10_close_168 rfl (lv_at hl 1 rfl) ?_
                  refine rget hC hK hR (ct_model G _ _) rfl uin_X10 26 (by decide) TF_X10_89 rfl dX10_close_169 ?_
                  refine lv_aload_n hC.x hC.b dX10_close_172 rfl (lv_at hl 1 rfl) ?_
                  refine rget hC hK hR (ct_model G _ _) rfl uin_X10 29 (by decide) TF_X10_137 rfl dX10_close_173 ?_
                  have rd_38 : (s_37 35 29).toInt = (s5 35 29).toInt := congrArg Int32.toInt (show s_37 35 29 = s5 35 29 from (by rw [es_36]; exact up2_n (by omega)))
                  refine lv_aload_n hC.x hC.b dX10_close_176 rfl (lv_at hl 1 rfl) ?_
                  refine rget hC hK hR (ct_model G _ _) rfl uin_X10 33 (by decide) TF_X10_235 rfl dX10_close_177 ?_
                  have rd_39 : (s_37 35 33).toInt = ((s5 35 33) - (-(s5 35 32))).toInt := congrArg Int32.toInt (show s_37 35 33 = ((s5 35 33) - (-(s5 35 32))) from (by rw [es_36]; exact up2_s))
                  refine ast hC hK hG hR hS (fun _ => ct_m_offs G _ _) rfl (by omega) (by omega) rfl dX10_close_180 (fun s_40 es_41 H locs hR hS => ?_)
                  refine lv_aload_n hC.x hC.b dX10_close_181 rfl (lv_at hl 1 rfl) ?_
                  refine lv_dup hC.x hC.b dX10_close_182 rfl ?_
                  refine rget hC hK hR (ct_model G _ _) rfl uin_X10 29 (by decide) TF_X10_137 rfl dX10_close_183 ?_
                  have rd_42 : (s_40 35 29).toInt = (s5 35 29).toInt := congrArg Int32.toInt (Eq.trans (show s_40 35 29 = s_37 35 29 from (by rw [es_41]; exact up2_o (by omega))) (show s_37 35 29 = s5 35 29 from (by rw [es_36]; exact up2_n (by omega))))
                  refine lv_iconst (v := 1) hC.x hC.b dX10_close_186 (by decide) ?_
                  refine lv_iadd hC.x hC.b dX10_close_187 ?_
                  have pr_43 : ((s_40 35 29) + (1 : Int32)).toInt = ((s_40 35 29).toInt + 1) := addI rfl rfl (by omega) (by omega)
                  refine rputi hC hK hG hR hS (ct_model G _ _) rfl uin_X10 tyX10 tyX10_ok nmX10 29 (by decide) TF_X10_137 rfl (Or.inl rfl) (Nat.le_of_ble_eq_true rfl) rfl (ct_model G _ _) dX10_close_188 (fun s_45 es_44 H locs hR hS => ?_)
                  refine lv_iload_n hC.x hC.b dX10_close_191 rfl (lv_at hl 2 rfl) ?_
                  have rd_46 : (s_45 35 29).toInt = ((s_40 35 29) + (1 : Int32)).toInt := congrArg Int32.toInt (show s_45 35 29 = ((s_40 35 29) + (1 : Int32)) from (by rw [es_44]; exact up2_s))
                  have rd_47 : (s_45 35 33).toInt = ((s5 35 33) - (-(s5 35 32))).toInt := congrArg Int32.toInt (Eq.trans (show s_45 35 33 = s_40 35 33 from (by rw [es_44]; exact up2_n (by omega))) (Eq.trans (show s_40 35 33 = s_37 35 33 from (by rw [es_41]; exact up2_o (by omega))) (show s_37 35 33 = ((s5 35 33) - (-(s5 35 32))) from (by rw [es_36]; exact up2_s))))
                  exact reti hC hK hR hS (by first | exact Or.inl (⟨by subst es_44; subst es_41; subst es_36; (first | rfl | omega), by exact (by rw [es_44]; exact MRel.upm ((by rw [es_41]; exact MRel.up ((by rw [es_36]; exact MRel.upm (hi3_109) (by first | omega | (dsimp only; omega)))) (by omega) (by first | omega | (dsimp only; omega)))) (by first | omega | (dsimp only; omega))), by subst es_44; subst es_41; subst es_36; (first | omega | assumption), by subst es_44; subst es_41; subst es_36; (rfl)⟩) | exact Or.inr ((⟨by exact (by rw [es_44]; exact MRel.upm ((by rw [es_41]; exact MRel.up ((by rw [es_36]; exact MRel.upm (hi3_109) (by first | omega | (dsimp only; omega)))) (by omega) (by first | omega | (dsimp only; omega)))) (by first | omega | (dsimp only; omega))), by subst es_44; subst es_41; subst es_36; (first | omega | assumption), by exact (by rw [es_44]; exact KM.u35 (by rw [es_41]; exact KM.up (by rw [es_36]; exact KM.u35 hi0_109 (by omega)) (by omega)) (by omega)), by first | omega | (dsimp only; omega), by first | omega | (dsimp only; omega), by assumption⟩)) | exact False.elim (by omega)) dX10_close_192
              · skip
                refine lv_iload_n hC.x hC.b dX10_close_137 rfl (lv_at hl 0 rfl) ?_
                refine lv_goto (tgt := 145) hC.x hC.b dX10_close_138 (by decide) ?_
                refine lv_istore_n (lv' := [(3, .int (s5 35 33)), (0, .ref (G.2.1 35)), (2, .int x2)]) hC.x hC.b dX10_close_145 rfl hl (by decide) rfl (fun ls hl => ?_)
                refine lv_aload_n hC.x hC.b dX10_close_146 rfl (lv_at hl 1 rfl) ?_
                refine lv_dup hC.x hC.b dX10_close_147 rfl ?_
                refine rget hC hK hR (ct_model G _ _) rfl uin_X10 33 (by decide) TF_X10_235 rfl dX10_close_148 ?_
                refine lv_aload_n hC.x hC.b dX10_close_151 rfl (lv_at hl 1 rfl) ?_
                refine rget hC hK hR (ct_model G _ _) rfl uin_X10 33 (by decide) TF_X10_235 rfl dX10_close_152 ?_
                refine bz_ge (tgt := 163) (a := (s5 35 33).toInt) (b := 0) hC.x hC.b rfl rfl dX10_close_155 (by decide) (fun c_48 => ?_) (fun c_48 => ?_)
                · skip
                  refine lv_iload_n hC.x hC.b dX10_close_163 rfl (lv_at hl 0 rfl) ?_
                  refine lv_isub hC.x hC.b dX10_close_164 ?_
                  have pr_49 : ((s5 35 33) - (s5 35 33)).toInt = ((s5 35 33).toInt - (s5 35 33).toInt) := subI rfl rfl (by omega) (by omega)
                  refine rputi hC hK hG hR hS (ct_model G _ _) rfl uin_X10 tyX10 tyX10_ok nmX10 33 (by decide) TF_X10_235 rfl (Or.inl rfl) (Nat.le_of_ble_eq_true rfl) rfl (ct_model G _ _) dX10_close_165 (fun s_51 es_50 H locs hR hS => ?_)
                  refine lv_aload_n hC.x hC.b dX10_close_168 rfl (lv_at hl 1 rfl) ?_
                  refine rget hC hK hR (ct_model G _ _) rfl uin_X10 26 (by decide) TF_X10_89 rfl dX10_close_169 ?_
                  refine lv_aload_n hC.x hC.b dX10_close_172 rfl (lv_at hl 1 rfl) ?_
                  refine rget hC hK hR (ct_model G _ _) rfl uin_X10 29 (by decide) TF_X10_137 rfl dX10_close_173 ?_
                  have rd_52 : (s_51 35 29).toInt = (s5 35 29).toInt := congrArg Int32.toInt (show s_51 35 29 = s5 35 29 from (by rw [es_50]; exact up2_n (by omega)))
                  refine lv_aload_n hC.x hC.b dX10_close_176 rfl (lv_at hl 1 rfl) ?_
                  refine rget hC hK hR (ct_model G _ _) rfl uin_X10 33 (by decide) TF_X10_235 rfl dX10_close_177 ?_
                  have rd_53 : (s_51 35 33).toInt = ((s5 35 33) - (s5 35 33)).toInt := congrArg Int32.toInt (show s_51 35 33 = ((s5 35 33) - (s5 35 33)) from (by rw [es_50]; exact up2_s))
                  refine ast hC hK hG hR hS (fun _ => ct_m_offs G _ _) rfl (by omega) (by omega) rfl dX10_close_180 (fun s_54 es_55 H locs hR hS => ?_)
                  refine lv_aload_n hC.x hC.b dX10_close_181 rfl (lv_at hl 1 rfl) ?_
                  refine lv_dup hC.x hC.b dX10_close_182 rfl ?_
                  refine rget hC hK hR (ct_model G _ _) rfl uin_X10 29 (by decide) TF_X10_137 rfl dX10_close_183 ?_
                  have rd_56 : (s_54 35 29).toInt = (s5 35 29).toInt := congrArg Int32.toInt (Eq.trans (show s_54 35 29 = s_51 35 29 from (by rw [es_55]; exact up2_o (by omega))) (show s_51 35 29 = s5 35 29 from (by rw [es_50]; exact up2_n (by omega))))
                  refine lv_iconst (v := 1) hC.x hC.b dX10_close_186 (by decide) ?_
                  refine lv_iadd hC.x hC.b dX10_close_187 ?_
                  have pr_57 : ((s_54 35 29) + (1 : Int32)).toInt = ((s_54 35 29).toInt + 1) := addI rfl rfl (by omega) (by omega)
                  refine rputi hC hK hG hR hS (ct_model G _ _) rfl uin_X10 tyX10 tyX10_ok nmX10 29 (by decide) TF_X10_137 rfl (Or.inl rfl) (Nat.le_of_ble_eq_true rfl) rfl (ct_model G _ _) dX10_close_188 (fun s_59 es_58 H locs hR hS => ?_)
                  refine lv_iload_n hC.x hC.b dX10_close_191 rfl (lv_at hl 2 rfl) ?_
                  have rd_60 : (s_59 35 29).toInt = ((s_54 35 29) + (1 : Int32)).toInt := congrArg Int32.toInt (show s_59 35 29 = ((s_54 35 29) + (1 : Int32)) from (by rw [es_58]; exact up2_s))
                  have rd_61 : (s_59 35 33).toInt = ((s5 35 33) - (s5 35 33)).toInt := congrArg Int32.toInt (Eq.trans (show s_59 35 33 = s_54 35 33 from (by rw [es_58]; exact up2_n (by omega))) (Eq.trans (show s_54 35 33 = s_51 35 33 from (by rw [es_55]; exact up2_o (by omega))) (show s_51 35 33 = ((s5 35 33) - (s5 35 33)) from (by rw [es_50]; exact up2_s))))
                  exact reti hC hK hR hS (by first | exact Or.inl (⟨by subst es_58; subst es_55; subst es_50; (first | rfl | omega), by exact (by rw [es_58]; exact MRel.upm ((by rw [es_55]; exact MRel.up ((by rw [es_50]; exact MRel.upm (hi3_109) (by first | omega | (dsimp only; omega)))) (by omega) (by first | omega | (dsimp only; omega)))) (by first | omega | (dsimp only; omega))), by subst es_58; subst es_55; subst es_50; (first | omega | assumption), by subst es_58; subst es_55; subst es_50; (rfl)⟩) | exact Or.inr ((⟨by exact (by rw [es_58]; exact MRel.upm ((by rw [es_55]; exact MRel.up ((by rw [es_50]; exact MRel.upm (hi3_109) (by first | omega | (dsimp only; omega)))) (by omega) (by first | omega | (dsimp only; omega)))) (by first | omega | (dsimp only; omega))), by subst es_58; subst es_55; subst es_50; (first | omega | assumption), by exact (by rw [es_58]; exact KM.u35 (by rw [es_55]; exact KM.up (by rw [es_50]; exact KM.u35 hi0_109 (by omega)) (by omega)) (by omega)), by first | omega | (dsimp only; omega), by first | omega | (dsimp only; omega), by assumption⟩)) | exact False.elim (by omega)) dX10_close_192
                · skip
                  refine lv_iload_n hC.x hC.b dX10_close_158 rfl (lv_at hl 0 rfl) ?_
                  refine lv_ineg hC.x hC.b dX10_close_159 ?_
                  have pr_62 : (-(s5 35 33)).toInt = (-((s5 35 33).toInt)) := negI rfl (by omega)
                  refine lv_goto (tgt := 164) hC.x hC.b dX10_close_160 (by decide) ?_
                  refine lv_isub hC.x hC.b dX10_close_164 ?_
                  have pr_63 : ((s5 35 33) - (-(s5 35 33))).toInt = ((s5 35 33).toInt - (-((s5 35 33).toInt))) := subI rfl pr_62 (by omega) (by omega)
                  refine rputi hC hK hG hR hS (ct_model G _ _) rfl uin_X10 tyX10 tyX10_ok nmX10 33 (by decide) TF_X10_235 rfl (Or.inl rfl) (Nat.le_of_ble_eq_true rfl) rfl (ct_model G _ _) dX10_close_165 (fun s_65 es_64 H locs hR hS => ?_)
                  refine lv_aload_n hC.x hC.b dX10_close_168 rfl (lv_at hl 1 rfl) ?_
                  refine rget hC hK hR (ct_model G _ _) rfl uin_X10 26 (by decide) TF_X10_89 rfl dX10_close_169 ?_
                  refine lv_aload_n hC.x hC.b dX10_close_172 rfl (lv_at hl 1 rfl) ?_
                  refine rget hC hK hR (ct_model G _ _) rfl uin_X10 29 (by decide) TF_X10_137 rfl dX10_close_173 ?_
                  have rd_66 : (s_65 35 29).toInt = (s5 35 29).toInt := congrArg Int32.toInt (show s_65 35 29 = s5 35 29 from (by rw [es_64]; exact up2_n (by omega)))
                  refine lv_aload_n hC.x hC.b dX10_close_176 rfl (lv_at hl 1 rfl) ?_
                  refine rget hC hK hR (ct_model G _ _) rfl uin_X10 33 (by decide) TF_X10_235 rfl dX10_close_177 ?_
                  have rd_67 : (s_65 35 33).toInt = ((s5 35 33) - (-(s5 35 33))).toInt := congrArg Int32.toInt (show s_65 35 33 = ((s5 35 33) - (-(s5 35 33))) from (by rw [es_64]; exact up2_s))
                  refine ast hC hK hG hR hS (fun _ => ct_m_offs G _ _) rfl (by omega) (by omega) rfl dX10_close_180 (fun s_68 es_69 H locs hR hS => ?_)
                  refine lv_aload_n hC.x hC.b dX10_close_181 rfl (lv_at hl 1 rfl) ?_
                  refine lv_dup hC.x hC.b dX10_close_182 rfl ?_
                  refine rget hC hK hR (ct_model G _ _) rfl uin_X10 29 (by decide) TF_X10_137 rfl dX10_close_183 ?_
                  have rd_70 : (s_68 35 29).toInt = (s5 35 29).toInt := congrArg Int32.toInt (Eq.trans (show s_68 35 29 = s_65 35 29 from (by rw [es_69]; exact up2_o (by omega))) (show s_65 35 29 = s5 35 29 from (by rw [es_64]; exact up2_n (by omega))))
                  refine lv_iconst (v := 1) hC.x hC.b dX10_close_186 (by decide) ?_
                  refine lv_iadd hC.x hC.b dX10_close_187 ?_
                  have pr_71 : ((s_68 35 29) + (1 : Int32)).toInt = ((s_68 35 29).toInt + 1) := addI rfl rfl (by omega) (by omega)
                  refine rputi hC hK hG hR hS (ct_model G _ _) rfl uin_X10 tyX10 tyX10_ok nmX10 29 (by decide) TF_X10_137 rfl (Or.inl rfl) (Nat.le_of_ble_eq_true rfl) rfl (ct_model G _ _) dX10_close_188 (fun s_73 es_72 H locs hR hS => ?_)
                  refine lv_iload_n hC.x hC.b dX10_close_191 rfl (lv_at hl 2 rfl) ?_
                  have rd_74 : (s_73 35 29).toInt = ((s_68 35 29) + (1 : Int32)).toInt := congrArg Int32.toInt (show s_73 35 29 = ((s_68 35 29) + (1 : Int32)) from (by rw [es_72]; exact up2_s))
                  have rd_75 : (s_73 35 33).toInt = ((s5 35 33) - (-(s5 35 33))).toInt := congrArg Int32.toInt (Eq.trans (show s_73 35 33 = s_68 35 33 from (by rw [es_72]; exact up2_n (by omega))) (Eq.trans (show s_68 35 33 = s_65 35 33 from (by rw [es_69]; exact up2_o (by omega))) (show s_65 35 33 = ((s5 35 33) - (-(s5 35 33))) from (by rw [es_64]; exact up2_s))))
                  exact reti hC hK hR hS (by first | exact Or.inl (⟨by subst es_72; subst es_69; subst es_64; (first | rfl | omega), by exact (by rw [es_72]; exact MRel.upm ((by rw [es_69]; exact MRel.up ((by rw [es_64]; exact MRel.upm (hi3_109) (by first | omega | (dsimp only; omega)))) (by omega) (by first | omega | (dsimp only; omega)))) (by first | omega | (dsimp only; omega))), by subst es_72; subst es_69; subst es_64; (first | omega | assumption), by subst es_72; subst es_69; subst es_64; (rfl)⟩) | exact Or.inr ((⟨by exact (by rw [es_72]; exact MRel.upm ((by rw [es_69]; exact MRel.up ((by rw [es_64]; exact MRel.upm (hi3_109) (by first | omega | (dsimp only; omega)))) (by omega) (by first | omega | (dsimp only; omega)))) (by first | omega | (dsimp only; omega))), by subst es_72; subst es_69; subst es_64; (first | omega | assumption), by exact (by rw [es_72]; exact KM.u35 (by rw [es_69]; exact KM.up (by rw [es_64]; exact KM.u35 hi0_109 (by omega)) (by omega)) (by omega)), by first | omega | (dsimp only; omega), by first | omega | (dsimp only; omega), by assumption⟩)) | exact False.elim (by omega)) dX10_close_192
            · skip
              refine lv_aload_n hC.x hC.b dX10_close_116 rfl (lv_at hl 0 rfl) ?_
              refine rget hC hK hR (ct_model G _ _) rfl uin_X10 33 (by decide) TF_X10_235 rfl dX10_close_117 ?_
              refine lv_ineg hC.x hC.b dX10_close_120 ?_
              have pr_76 : (-(s5 35 33)).toInt = (-((s5 35 33).toInt)) := negI rfl (by omega)
              refine lv_goto (tgt := 128) hC.x hC.b dX10_close_121 (by decide) ?_
              refine lv_istore_n (lv' := [(3, .int (-(s5 35 33))), (0, .ref (G.2.1 35)), (2, .int x2)]) hC.x hC.b dX10_close_128 rfl hl (by decide) rfl (fun ls hl => ?_)
              refine lv_iload_n hC.x hC.b dX10_close_129 rfl (lv_at hl 0 rfl) ?_
              refine lv_aload_n hC.x hC.b dX10_close_130 rfl (lv_at hl 1 rfl) ?_
              refine rget hC hK hR (ct_model G _ _) rfl uin_X10 32 (by decide) TF_X10_105 rfl dX10_close_131 ?_
              have rd_77 : (s5 35 32).toInt = (σ 35 32).toInt := congrArg Int32.toInt (show s5 35 32 = σ 35 32 from hi3_109.2 32 (by first | omega | (dsimp only; omega)))
              refine bi_ge (tgt := 141) (a := (-((s5 35 33).toInt))) (b := (s5 35 32).toInt) hC.x hC.b pr_76 rfl dX10_close_134 (by decide) (fun c_78 => ?_) (fun c_78 => ?_)
              · skip
                refine lv_aload_n hC.x hC.b dX10_close_141 rfl (lv_at hl 1 rfl) ?_
                refine rget hC hK hR (ct_model G _ _) rfl uin_X10 32 (by decide) TF_X10_105 rfl dX10_close_142 ?_
                have rd_79 : (s5 35 32).toInt = (σ 35 32).toInt := congrArg Int32.toInt (show s5 35 32 = σ 35 32 from hi3_109.2 32 (by first | omega | (dsimp only; omega)))
                refine lv_istore_n (lv' := [(3, .int (s5 35 32)), (0, .ref (G.2.1 35)), (2, .int x2)]) hC.x hC.b dX10_close_145 rfl hl (by decide) rfl (fun ls hl => ?_)
                refine lv_aload_n hC.x hC.b dX10_close_146 rfl (lv_at hl 1 rfl) ?_
                refine lv_dup hC.x hC.b dX10_close_147 rfl ?_
                refine rget hC hK hR (ct_model G _ _) rfl uin_X10 33 (by decide) TF_X10_235 rfl dX10_close_148 ?_
                refine lv_aload_n hC.x hC.b dX10_close_151 rfl (lv_at hl 1 rfl) ?_
                refine rget hC hK hR (ct_model G _ _) rfl uin_X10 33 (by decide) TF_X10_235 rfl dX10_close_152 ?_
                refine bz_ge (tgt := 163) (a := (s5 35 33).toInt) (b := 0) hC.x hC.b rfl rfl dX10_close_155 (by decide) (fun c_80 => ?_) (fun c_80 => ?_)
                · skip
                  refine lv_iload_n hC.x hC.b dX10_close_163 rfl (lv_at hl 0 rfl) ?_
                  refine lv_isub hC.x hC.b dX10_close_164 ?_
                  have pr_81 : ((s5 35 33) - (s5 35 32)).toInt = ((s5 35 33).toInt - (s5 35 32).toInt) := subI rfl rfl (by omega) (by omega)
                  refine rputi hC hK hG hR hS (ct_model G _ _) rfl uin_X10 tyX10 tyX10_ok nmX10 33 (by decide) TF_X10_235 rfl (Or.inl rfl) (Nat.le_of_ble_eq_true rfl) rfl (ct_model G _ _) dX10_close_165 (fun s_83 es_82 H locs hR hS => ?_)
                  refine lv_aload_n hC.x hC.b dX10_close_168 rfl (lv_at hl 1 rfl) ?_
                  refine rget hC hK hR (ct_model G _ _) rfl uin_X10 26 (by decide) TF_X10_89 rfl dX10_close_169 ?_
                  refine lv_aload_n hC.x hC.b dX10_close_172 rfl (lv_at hl 1 rfl) ?_
                  refine rget hC hK hR (ct_model G _ _) rfl uin_X10 29 (by decide) TF_X10_137 rfl dX10_close_173 ?_
                  have rd_84 : (s_83 35 29).toInt = (s5 35 29).toInt := congrArg Int32.toInt (show s_83 35 29 = s5 35 29 from (by rw [es_82]; exact up2_n (by omega)))
                  refine lv_aload_n hC.x hC.b dX10_close_176 rfl (lv_at hl 1 rfl) ?_
                  refine rget hC hK hR (ct_model G _ _) rfl uin_X10 33 (by decide) TF_X10_235 rfl dX10_close_177 ?_
                  have rd_85 : (s_83 35 33).toInt = ((s5 35 33) - (s5 35 32)).toInt := congrArg Int32.toInt (show s_83 35 33 = ((s5 35 33) - (s5 35 32)) from (by rw [es_82]; exact up2_s))
                  refine ast hC hK hG hR hS (fun _ => ct_m_offs G _ _) rfl (by omega) (by omega) rfl dX10_close_180 (fun s_86 es_87 H locs hR hS => ?_)
                  refine lv_aload_n hC.x hC.b dX10_close_181 rfl (lv_at hl 1 rfl) ?_
                  refine lv_dup hC.x hC.b dX10_close_182 rfl ?_
                  refine rget hC hK hR (ct_model G _ _) rfl uin_X10 29 (by decide) TF_X10_137 rfl dX10_close_183 ?_
                  have rd_88 : (s_86 35 29).toInt = (s5 35 29).toInt := congrArg Int32.toInt (Eq.trans (show s_86 35 29 = s_83 35 29 from (by rw [es_87]; exact up2_o (by omega))) (show s_83 35 29 = s5 35 29 from (by rw [es_82]; exact up2_n (by omega))))
                  refine lv_iconst (v := 1) hC.x hC.b dX10_close_186 (by decide) ?_
                  refine lv_iadd hC.x hC.b dX10_close_187 ?_
                  have pr_89 : ((s_86 35 29) + (1 : Int32)).toInt = ((s_86 35 29).toInt + 1) := addI rfl rfl (by omega) (by omega)
                  refine rputi hC hK hG hR hS (ct_model G _ _) rfl uin_X10 tyX10 tyX10_ok nmX10 29 (by decide) TF_X10_137 rfl (Or.inl rfl) (Nat.le_of_ble_eq_true rfl) rfl (ct_model G _ _) dX10_close_188 (fun s_91 es_90 H locs hR hS => ?_)
                  refine lv_iload_n hC.x hC.b dX10_close_191 rfl (lv_at hl 2 rfl) ?_
                  have rd_92 : (s_91 35 29).toInt = ((s_86 35 29) + (1 : Int32)).toInt := congrArg Int32.toInt (show s_91 35 29 = ((s_86 35 29) + (1 : Int32)) from (by rw [es_90]; exact up2_s))
                  have rd_93 : (s_91 35 33).toInt = ((s5 35 33) - (s5 35 32)).toInt := congrArg Int32.toInt (Eq.trans (show s_91 35 33 = s_86 35 33 from (by rw [es_90]; exact up2_n (by omega))) (Eq.trans (show s_86 35 33 = s_83 35 33 from (by rw [es_87]; exact up2_o (by omega))) (show s_83 35 33 = ((s5 35 33) - (s5 35 32)) from (by rw [es_82]; exact up2_s))))
                  exact reti hC hK hR hS (by first | exact Or.inl (⟨by subst es_90; subst es_87; subst es_82; (first | rfl | omega), by exact (by rw [es_90]; exact MRel.upm ((by rw [es_87]; exact MRel.up ((by rw [es_82]; exact MRel.upm (hi3_109) (by first | omega | (dsimp only; omega)))) (by omega) (by first | omega | (dsimp only; omega)))) (by first | omega | (dsimp only; omega))), by subst es_90; subst es_87; subst es_82; (first | omega | assumption), by subst es_90; subst es_87; subst es_82; (rfl)⟩) | exact Or.inr ((⟨by exact (by rw [es_90]; exact MRel.upm ((by rw [es_87]; exact MRel.up ((by rw [es_82]; exact MRel.upm (hi3_109) (by first | omega | (dsimp only; omega)))) (by omega) (by first | omega | (dsimp only; omega)))) (by first | omega | (dsimp only; omega))), by subst es_90; subst es_87; subst es_82; (first | omega | assumption), by exact (by rw [es_90]; exact KM.u35 (by rw [es_87]; exact KM.up (by rw [es_82]; exact KM.u35 hi0_109 (by omega)) (by omega)) (by omega)), by first | omega | (dsimp only; omega), by first | omega | (dsimp only; omega), by assumption⟩)) | exact False.elim (by omega)) dX10_close_192
                · skip
                  refine lv_iload_n hC.x hC.b dX10_close_158 rfl (lv_at hl 0 rfl) ?_
                  refine lv_ineg hC.x hC.b dX10_close_159 ?_
                  have pr_94 : (-(s5 35 32)).toInt = (-((s5 35 32).toInt)) := negI rfl (by omega)
                  refine lv_goto (tgt := 164) hC.x hC.b dX10_close_160 (by decide) ?_
                  refine lv_isub hC.x hC.b dX10_close_164 ?_
                  have pr_95 : ((s5 35 33) - (-(s5 35 32))).toInt = ((s5 35 33).toInt - (-((s5 35 32).toInt))) := subI rfl pr_94 (by omega) (by omega)
                  refine rputi hC hK hG hR hS (ct_model G _ _) rfl uin_X10 tyX10 tyX10_ok nmX10 33 (by decide) TF_X10_235 rfl (Or.inl rfl) (Nat.le_of_ble_eq_true rfl) rfl (ct_model G _ _) dX10_close_165 (fun s_97 es_96 H locs hR hS => ?_)
                  refine lv_aload_n hC.x hC.b dX10_close_168 rfl (lv_at hl 1 rfl) ?_
                  refine rget hC hK hR (ct_model G _ _) rfl uin_X10 26 (by decide) TF_X10_89 rfl dX10_close_169 ?_
                  refine lv_aload_n hC.x hC.b dX10_close_172 rfl (lv_at hl 1 rfl) ?_
                  refine rget hC hK hR (ct_model G _ _) rfl uin_X10 29 (by decide) TF_X10_137 rfl dX10_close_173 ?_
                  have rd_98 : (s_97 35 29).toInt = (s5 35 29).toInt := congrArg Int32.toInt (show s_97 35 29 = s5 35 29 from (by rw [es_96]; exact up2_n (by omega)))
                  refine lv_aload_n hC.x hC.b dX10_close_176 rfl (lv_at hl 1 rfl) ?_
                  refine rget hC hK hR (ct_model G _ _) rfl uin_X10 33 (by decide) TF_X10_235 rfl dX10_close_177 ?_
                  have rd_99 : (s_97 35 33).toInt = ((s5 35 33) - (-(s5 35 32))).toInt := congrArg Int32.toInt (show s_97 35 33 = ((s5 35 33) - (-(s5 35 32))) from (by rw [es_96]; exact up2_s))
                  refine ast hC hK hG hR hS (fun _ => ct_m_offs G _ _) rfl (by omega) (by omega) rfl dX10_close_180 (fun s_100 es_101 H locs hR hS => ?_)
                  refine lv_aload_n hC.x hC.b dX10_close_181 rfl (lv_at hl 1 rfl) ?_
                  refine lv_dup hC.x hC.b dX10_close_182 rfl ?_
                  refine rget hC hK hR (ct_model G _ _) rfl uin_X10 29 (by decide) TF_X10_137 rfl dX10_close_183 ?_
                  have rd_102 : (s_100 35 29).toInt = (s5 35 29).toInt := congrArg Int32.toInt (Eq.trans (show s_100 35 29 = s_97 35 29 from (by rw [es_101]; exact up2_o (by omega))) (show s_97 35 29 = s5 35 29 from (by rw [es_96]; exact up2_n (by omega))))
                  refine lv_iconst (v := 1) hC.x hC.b dX10_close_186 (by decide) ?_
                  refine lv_iadd hC.x hC.b dX10_close_187 ?_
                  have pr_103 : ((s_100 35 29) + (1 : Int32)).toInt = ((s_100 35 29).toInt + 1) := addI rfl rfl (by omega) (by omega)
                  refine rputi hC hK hG hR hS (ct_model G _ _) rfl uin_X10 tyX10 tyX10_ok nmX10 29 (by decide) TF_X10_137 rfl (Or.inl rfl) (Nat.le_of_ble_eq_true rfl) rfl (ct_model G _ _) dX10_close_188 (fun s_105 es_104 H locs hR hS => ?_)
                  refine lv_iload_n hC.x hC.b dX10_close_191 rfl (lv_at hl 2 rfl) ?_
                  have rd_106 : (s_105 35 29).toInt = ((s_100 35 29) + (1 : Int32)).toInt := congrArg Int32.toInt (show s_105 35 29 = ((s_100 35 29) + (1 : Int32)) from (by rw [es_104]; exact up2_s))
                  have rd_107 : (s_105 35 33).toInt = ((s5 35 33) - (-(s5 35 32))).toInt := congrArg Int32.toInt (Eq.trans (show s_105 35 33 = s_100 35 33 from (by rw [es_104]; exact up2_n (by omega))) (Eq.trans (show s_100 35 33 = s_97 35 33 from (by rw [es_101]; exact up2_o (by omega))) (show s_97 35 33 = ((s5 35 33) - (-(s5 35 32))) from (by rw [es_96]; exact up2_s))))
                  exact reti hC hK hR hS (by first | exact Or.inl (⟨by subst es_104; subst es_101; subst es_96; (first | rfl | omega), by exact (by rw [es_104]; exact MRel.upm ((by rw [es_101]; exact MRel.up ((by rw [es_96]; exact MRel.upm (hi3_109) (by first | omega | (dsimp only; omega)))) (by omega) (by first | omega | (dsimp only; omega)))) (by first | omega | (dsimp only; omega))), by subst es_104; subst es_101; subst es_96; (first | omega | assumption), by subst es_104; subst es_101; subst es_96; (rfl)⟩) | exact Or.inr ((⟨by exact (by rw [es_104]; exact MRel.upm ((by rw [es_101]; exact MRel.up ((by rw [es_96]; exact MRel.upm (hi3_109) (by first | omega | (dsimp only; omega)))) (by omega) (by first | omega | (dsimp only; omega)))) (by first | omega | (dsimp only; omega))), by subst es_104; subst es_101; subst es_96; (first | omega | assumption), by exact (by rw [es_104]; exact KM.u35 (by rw [es_101]; exact KM.up (by rw [es_96]; exact KM.u35 hi0_109 (by omega)) (by omega)) (by omega)), by first | omega | (dsimp only; omega), by first | omega | (dsimp only; omega), by assumption⟩)) | exact False.elim (by omega)) dX10_close_192
              · skip
                refine lv_iload_n hC.x hC.b dX10_close_137 rfl (lv_at hl 0 rfl) ?_
                refine lv_goto (tgt := 145) hC.x hC.b dX10_close_138 (by decide) ?_
                refine lv_istore_n (lv' := [(3, .int (-(s5 35 33))), (0, .ref (G.2.1 35)), (2, .int x2)]) hC.x hC.b dX10_close_145 rfl hl (by decide) rfl (fun ls hl => ?_)
                refine lv_aload_n hC.x hC.b dX10_close_146 rfl (lv_at hl 1 rfl) ?_
                refine lv_dup hC.x hC.b dX10_close_147 rfl ?_
                refine rget hC hK hR (ct_model G _ _) rfl uin_X10 33 (by decide) TF_X10_235 rfl dX10_close_148 ?_
                refine lv_aload_n hC.x hC.b dX10_close_151 rfl (lv_at hl 1 rfl) ?_
                refine rget hC hK hR (ct_model G _ _) rfl uin_X10 33 (by decide) TF_X10_235 rfl dX10_close_152 ?_
                refine bz_ge (tgt := 163) (a := (s5 35 33).toInt) (b := 0) hC.x hC.b rfl rfl dX10_close_155 (by decide) (fun c_108 => ?_) (fun c_108 => ?_)
                · skip
                  refine lv_iload_n hC.x hC.b dX10_close_163 rfl (lv_at hl 0 rfl) ?_
                  refine lv_isub hC.x hC.b dX10_close_164 ?_
                  have pr_109 : ((s5 35 33) - (-(s5 35 33))).toInt = ((s5 35 33).toInt - (-((s5 35 33).toInt))) := subI rfl pr_76 (by omega) (by omega)
                  refine rputi hC hK hG hR hS (ct_model G _ _) rfl uin_X10 tyX10 tyX10_ok nmX10 33 (by decide) TF_X10_235 rfl (Or.inl rfl) (Nat.le_of_ble_eq_true rfl) rfl (ct_model G _ _) dX10_close_165 (fun s_111 es_110 H locs hR hS => ?_)
                  refine lv_aload_n hC.x hC.b dX10_close_168 rfl (lv_at hl 1 rfl) ?_
                  refine rget hC hK hR (ct_model G _ _) rfl uin_X10 26 (by decide) TF_X10_89 rfl dX10_close_169 ?_
                  refine lv_aload_n hC.x hC.b dX10_close_172 rfl (lv_at hl 1 rfl) ?_
                  refine rget hC hK hR (ct_model G _ _) rfl uin_X10 29 (by decide) TF_X10_137 rfl dX10_close_173 ?_
                  have rd_112 : (s_111 35 29).toInt = (s5 35 29).toInt := congrArg Int32.toInt (show s_111 35 29 = s5 35 29 from (by rw [es_110]; exact up2_n (by omega)))
                  refine lv_aload_n hC.x hC.b dX10_close_176 rfl (lv_at hl 1 rfl) ?_
                  refine rget hC hK hR (ct_model G _ _) rfl uin_X10 33 (by decide) TF_X10_235 rfl dX10_close_177 ?_
                  have rd_113 : (s_111 35 33).toInt = ((s5 35 33) - (-(s5 35 33))).toInt := congrArg Int32.toInt (show s_111 35 33 = ((s5 35 33) - (-(s5 35 33))) from (by rw [es_110]; exact up2_s))
                  refine ast hC hK hG hR hS (fun _ => ct_m_offs G _ _) rfl (by omega) (by omega) rfl dX10_close_180 (fun s_114 es_115 H locs hR hS => ?_)
                  refine lv_aload_n hC.x hC.b dX10_close_181 rfl (lv_at hl 1 rfl) ?_
                  refine lv_dup hC.x hC.b dX10_close_182 rfl ?_
                  refine rget hC hK hR (ct_model G _ _) rfl uin_X10 29 (by decide) TF_X10_137 rfl dX10_close_183 ?_
                  have rd_116 : (s_114 35 29).toInt = (s5 35 29).toInt := congrArg Int32.toInt (Eq.trans (show s_114 35 29 = s_111 35 29 from (by rw [es_115]; exact up2_o (by omega))) (show s_111 35 29 = s5 35 29 from (by rw [es_110]; exact up2_n (by omega))))
                  refine lv_iconst (v := 1) hC.x hC.b dX10_close_186 (by decide) ?_
                  refine lv_iadd hC.x hC.b dX10_close_187 ?_
                  have pr_117 : ((s_114 35 29) + (1 : Int32)).toInt = ((s_114 35 29).toInt + 1) := addI rfl rfl (by omega) (by omega)
                  refine rputi hC hK hG hR hS (ct_model G _ _) rfl uin_X10 tyX10 tyX10_ok nmX10 29 (by decide) TF_X10_137 rfl (Or.inl rfl) (Nat.le_of_ble_eq_true rfl) rfl (ct_model G _ _) dX10_close_188 (fun s_119 es_118 H locs hR hS => ?_)
                  refine lv_iload_n hC.x hC.b dX10_close_191 rfl (lv_at hl 2 rfl) ?_
                  have rd_120 : (s_119 35 29).toInt = ((s_114 35 29) + (1 : Int32)).toInt := congrArg Int32.toInt (show s_119 35 29 = ((s_114 35 29) + (1 : Int32)) from (by rw [es_118]; exact up2_s))
                  have rd_121 : (s_119 35 33).toInt = ((s5 35 33) - (-(s5 35 33))).toInt := congrArg Int32.toInt (Eq.trans (show s_119 35 33 = s_114 35 33 from (by rw [es_118]; exact up2_n (by omega))) (Eq.trans (show s_114 35 33 = s_111 35 33 from (by rw [es_115]; exact up2_o (by omega))) (show s_111 35 33 = ((s5 35 33) - (-(s5 35 33))) from (by rw [es_110]; exact up2_s))))
                  exact reti hC hK hR hS (by first | exact Or.inl (⟨by subst es_118; subst es_115; subst es_110; (first | rfl | omega), by exact (by rw [es_118]; exact MRel.upm ((by rw [es_115]; exact MRel.up ((by rw [es_110]; exact MRel.upm (hi3_109) (by first | omega | (dsimp only; omega)))) (by omega) (by first | omega | (dsimp only; omega)))) (by first | omega | (dsimp only; omega))), by subst es_118; subst es_115; subst es_110; (first | omega | assumption), by subst es_118; subst es_115; subst es_110; (rfl)⟩) | exact Or.inr ((⟨by exact (by rw [es_118]; exact MRel.upm ((by rw [es_115]; exact MRel.up ((by rw [es_110]; exact MRel.upm (hi3_109) (by first | omega | (dsimp only; omega)))) (by omega) (by first | omega | (dsimp only; omega)))) (by first | omega | (dsimp only; omega))), by subst es_118; subst es_115; subst es_110; (first | omega | assumption), by exact (by rw [es_118]; exact KM.u35 (by rw [es_115]; exact KM.up (by rw [es_110]; exact KM.u35 hi0_109 (by omega)) (by omega)) (by omega)), by first | omega | (dsimp only; omega), by first | omega | (dsimp only; omega), by assumption⟩)) | exact False.elim (by omega)) dX10_close_192
                · skip
                  refine lv_iload_n hC.x hC.b dX10_close_158 rfl (lv_at hl 0 rfl) ?_
                  refine lv_ineg hC.x hC.b dX10_close_159 ?_
                  have pr_122 : (-(-(s5 35 33))).toInt = (-(-((s5 35 33).toInt))) := negI pr_76 (by omega)
                  refine lv_goto (tgt := 164) hC.x hC.b dX10_close_160 (by decide) ?_
                  refine lv_isub hC.x hC.b dX10_close_164 ?_
                  have pr_123 : ((s5 35 33) - (-(-(s5 35 33)))).toInt = ((s5 35 33).toInt - (-(-((s5 35 33).toInt)))) := subI rfl pr_122 (by omega) (by omega)
                  refine rputi hC hK hG hR hS (ct_model G _ _) rfl uin_X10 tyX10 tyX10_ok nmX10 33 (by decide) TF_X10_235 rfl (Or.inl rfl) (Nat.le_of_ble_eq_true rfl) rfl (ct_model G _ _) dX10_close_165 (fun s_125 es_124 H locs hR hS => ?_)
                  refine lv_aload_n hC.x hC.b dX10_close_168 rfl (lv_at hl 1 rfl) ?_
                  refine rget hC hK hR (ct_model G _ _) rfl uin_X10 26 (by decide) TF_X10_89 rfl dX10_close_169 ?_
                  refine lv_aload_n hC.x hC.b dX10_close_172 rfl (lv_at hl 1 rfl) ?_
                  refine rget hC hK hR (ct_model G _ _) rfl uin_X10 29 (by decide) TF_X10_137 rfl dX10_close_173 ?_
                  have rd_126 : (s_125 35 29).toInt = (s5 35 29).toInt := congrArg Int32.toInt (show s_125 35 29 = s5 35 29 from (by rw [es_124]; exact up2_n (by omega)))
                  refine lv_aload_n hC.x hC.b dX10_close_176 rfl (lv_at hl 1 rfl) ?_
                  refine rget hC hK hR (ct_model G _ _) rfl uin_X10 33 (by decide) TF_X10_235 rfl dX10_close_177 ?_
                  have rd_127 : (s_125 35 33).toInt = ((s5 35 33) - (-(-(s5 35 33)))).toInt := congrArg Int32.toInt (show s_125 35 33 = ((s5 35 33) - (-(-(s5 35 33)))) from (by rw [es_124]; exact up2_s))
                  refine ast hC hK hG hR hS (fun _ => ct_m_offs G _ _) rfl (by omega) (by omega) rfl dX10_close_180 (fun s_128 es_129 H locs hR hS => ?_)
                  refine lv_aload_n hC.x hC.b dX10_close_181 rfl (lv_at hl 1 rfl) ?_
                  refine lv_dup hC.x hC.b dX10_close_182 rfl ?_
                  refine rget hC hK hR (ct_model G _ _) rfl uin_X10 29 (by decide) TF_X10_137 rfl dX10_close_183 ?_
                  have rd_130 : (s_128 35 29).toInt = (s5 35 29).toInt := congrArg Int32.toInt (Eq.trans (show s_128 35 29 = s_125 35 29 from (by rw [es_129]; exact up2_o (by omega))) (show s_125 35 29 = s5 35 29 from (by rw [es_124]; exact up2_n (by omega))))
                  refine lv_iconst (v := 1) hC.x hC.b dX10_close_186 (by decide) ?_
                  refine lv_iadd hC.x hC.b dX10_close_187 ?_
                  have pr_131 : ((s_128 35 29) + (1 : Int32)).toInt = ((s_128 35 29).toInt + 1) := addI rfl rfl (by omega) (by omega)
                  refine rputi hC hK hG hR hS (ct_model G _ _) rfl uin_X10 tyX10 tyX10_ok nmX10 29 (by decide) TF_X10_137 rfl (Or.inl rfl) (Nat.le_of_ble_eq_true rfl) rfl (ct_model G _ _) dX10_close_188 (fun s_133 es_132 H locs hR hS => ?_)
                  refine lv_iload_n hC.x hC.b dX10_close_191 rfl (lv_at hl 2 rfl) ?_
                  have rd_134 : (s_133 35 29).toInt = ((s_128 35 29) + (1 : Int32)).toInt := congrArg Int32.toInt (show s_133 35 29 = ((s_128 35 29) + (1 : Int32)) from (by rw [es_132]; exact up2_s))
                  have rd_135 : (s_133 35 33).toInt = ((s5 35 33) - (-(-(s5 35 33)))).toInt := congrArg Int32.toInt (Eq.trans (show s_133 35 33 = s_128 35 33 from (by rw [es_132]; exact up2_n (by omega))) (Eq.trans (show s_128 35 33 = s_125 35 33 from (by rw [es_129]; exact up2_o (by omega))) (show s_125 35 33 = ((s5 35 33) - (-(-(s5 35 33)))) from (by rw [es_124]; exact up2_s))))
                  exact reti hC hK hR hS (by first | exact Or.inl (⟨by subst es_132; subst es_129; subst es_124; (first | rfl | omega), by exact (by rw [es_132]; exact MRel.upm ((by rw [es_129]; exact MRel.up ((by rw [es_124]; exact MRel.upm (hi3_109) (by first | omega | (dsimp only; omega)))) (by omega) (by first | omega | (dsimp only; omega)))) (by first | omega | (dsimp only; omega))), by subst es_132; subst es_129; subst es_124; (first | omega | assumption), by subst es_132; subst es_129; subst es_124; (rfl)⟩) | exact Or.inr ((⟨by exact (by rw [es_132]; exact MRel.upm ((by rw [es_129]; exact MRel.up ((by rw [es_124]; exact MRel.upm (hi3_109) (by first | omega | (dsimp only; omega)))) (by omega) (by first | omega | (dsimp only; omega)))) (by first | omega | (dsimp only; omega))), by subst es_132; subst es_129; subst es_124; (first | omega | assumption), by exact (by rw [es_132]; exact KM.u35 (by rw [es_129]; exact KM.up (by rw [es_124]; exact KM.u35 hi0_109 (by omega)) (by omega)) (by omega)), by first | omega | (dsimp only; omega), by first | omega | (dsimp only; omega), by assumption⟩)) | exact False.elim (by omega)) dX10_close_192
          refine lv_iload_n hC.x hC.b dX10_close_94 rfl (lv_at hl 0 rfl) ?_
          refine lv_iconst (v := (-1)) hC.x hC.b dX10_close_95 (by decide) ?_
          refine bi_ne (tgt := 103) (a := v_3.toInt) (b := (-1)) hC.x hC.b rfl rfl dX10_close_96 (by decide) (fun c_136 => ?_) (fun c_136 => ?_)
          · skip
            refine lv_aload_n hC.x hC.b dX10_close_103 rfl (lv_at hl 1 rfl) ?_
            refine lv_iload_n hC.x hC.b dX10_close_104 rfl (lv_at hl 0 rfl) ?_
            have rd_137 : (s_14 35 29).toInt = (s1 35 29).toInt := congrArg Int32.toInt (Eq.trans (show s_14 35 29 = s_10 35 29 from (by rw [es_15]; exact up2_o (by omega))) (Eq.trans (show s_10 35 29 = s_7 35 29 from (by rw [es_11]; exact up2_o (by omega))) (show s_7 35 29 = s1 35 29 from (by rw [es_8]; exact up2_o (by omega)))))
            refine goi (runV (As := [.int v_3]) (rest := []) hC hK hR hl.1 (c4_X10_closes l hG s_14 τ v_3 v_3.toInt.toNat rfl (by first | assumption | omega) (by omega) (by exact LnM.fr (S := (fun k => (41 ≤ k ∧ k ≤ 46 ∧ k ≠ 42 ∧ k ≠ 43) ∨ (52 ≤ k ∧ k ≤ 69) ∨ k = 71)) (J := (fun j => j = 29 ∨ j = 33 ∨ j = 37 ∨ j = 41 ∨ j = 43 ∨ j = 44)) (σ1 := s_14) hln (by rw [es_15]; exact MRel.up ((by rw [es_11]; exact MRel.up ((by rw [es_8]; exact MRel.up (hi3_14) (by omega) (by first | omega | (dsimp only; omega)))) (by omega) (by first | omega | (dsimp only; omega)))) (by omega) (by first | omega | (dsimp only; omega))) (by first | omega | (dsimp only; omega)) (by first | omega | (dsimp only; omega)) (by first | omega | (dsimp only; omega))) (by exact ClM.fr (S := (fun k => (41 ≤ k ∧ k ≤ 46 ∧ k ≠ 42 ∧ k ≠ 43) ∨ (52 ≤ k ∧ k ≤ 69) ∨ k = 71)) (J := (fun j => j = 29 ∨ j = 33 ∨ j = 37 ∨ j = 41 ∨ j = 43 ∨ j = 44)) (σ1 := s_14) hcl (by rw [es_15]; exact MRel.up ((by rw [es_11]; exact MRel.up ((by rw [es_8]; exact MRel.up (hi3_14) (by omega) (by first | omega | (dsimp only; omega)))) (by omega) (by first | omega | (dsimp only; omega)))) (by omega) (by first | omega | (dsimp only; omega))) (by first | omega | (dsimp only; omega)) (by first | omega | (dsimp only; omega))) (by exact (by rw [es_15]; exact KM.up (by rw [es_11]; exact KM.up (by rw [es_8]; exact KM.up hi0_14 (by omega)) (by omega)) (by omega)))) (call_b hC.ts TC_X10_closes TN_X10 TM_X10_232 hd_X10_closes ⟨Nat.le_of_ble_eq_true rfl, Nat.le_of_ble_eq_true rfl⟩) TI_X10_closes TS_X10_closes (ct_model G _ _) rfl rfl rfl (Nat.le_of_ble_eq_true rfl) dX10_close_105 ⟨Nat.le_of_ble_eq_true rfl, Nat.le_of_ble_eq_true rfl⟩) hS (fun v_138 s_140 t_141 H locs w_139 hR hS => ?_)
            try dsimp only [po4_X10_closes] at w_139
            obtain ⟨f_142, f_143, f_144⟩ := w_139
            refine lv_istore_n (lv' := [(2, .int v_138), (1, .int v_3), (0, .ref (G.2.1 35))]) hC.x hC.b dX10_close_108 rfl hl (by decide) rfl (fun ls hl => ?_)
            have rd_145 : (s_140 35 29).toInt = (s1 35 29).toInt := congrArg Int32.toInt (Eq.trans (show s_140 35 29 = s_14 35 29 from f_142.2 29 (by first | omega | (dsimp only; omega))) (Eq.trans (show s_14 35 29 = s_10 35 29 from (by rw [es_15]; exact up2_o (by omega))) (Eq.trans (show s_10 35 29 = s_7 35 29 from (by rw [es_11]; exact up2_o (by omega))) (show s_7 35 29 = s1 35 29 from (by rw [es_8]; exact up2_o (by omega))))))
            have rd_146 : (s_140 35 33).toInt = (s1 35 33).toInt := congrArg Int32.toInt (Eq.trans (show s_140 35 33 = s_14 35 33 from f_142.2 33 (by first | omega | (dsimp only; omega))) (Eq.trans (show s_14 35 33 = s_10 35 33 from (by rw [es_15]; exact up2_o (by omega))) (Eq.trans (show s_10 35 33 = s_7 35 33 from (by rw [es_11]; exact up2_o (by omega))) (show s_7 35 33 = s1 35 33 from (by rw [es_8]; exact up2_o (by omega))))))
            exact L_109 v_138 s_140 t_141 (by exact f_143) (by omega) (by exact CMV.r (K6.mr (σ := σ) (s := s1) hi3_14 (by intro k h1 h2; first | omega | (dsimp only at h2; omega)) (by omega)) (K6.mr (S := (fun k => (41 ≤ k ∧ k ≤ 46 ∧ k ≠ 42 ∧ k ≠ 43) ∨ (52 ≤ k ∧ k ≤ 69) ∨ k = 71)) (J := (fun j => j = 29 ∨ j = 33 ∨ j = 37 ∨ j = 41 ∨ j = 43 ∨ j = 44)) (σ := σ) (s := s_14) (by rw [es_15]; exact MRel.up ((by rw [es_11]; exact MRel.up ((by rw [es_8]; exact MRel.up (hi3_14) (by omega) (by first | omega | (dsimp only; omega)))) (by omega) (by first | omega | (dsimp only; omega)))) (by omega) (by first | omega | (dsimp only; omega))) (by intro k h1 h2; first | omega | (dsimp only at h2; omega)) (by omega)) (by assumption) (by omega) (by assumption)) (MRel.tr (by rw [es_15]; exact MRel.up ((by rw [es_11]; exact MRel.up ((by rw [es_8]; exact MRel.up (hi3_14) (by omega) (by first | omega | (dsimp only; omega)))) (by omega) (by first | omega | (dsimp only; omega)))) (by omega) (by first | omega | (dsimp only; omega))) (MRel.mo f_142 (by intro k q; first | omega | (dsimp only at q ⊢; omega) | exact q.elim) (by intro j q; first | omega | (dsimp only at q ⊢; omega) | exact q.elim))) _ _ _ hR hS (lv_sub hl [2, 0] rfl)
          · skip
            refine lv_iconst (v := 0) hC.x hC.b dX10_close_99 (by decide) ?_
            refine lv_goto (tgt := 108) hC.x hC.b dX10_close_100 (by decide) ?_
            refine lv_istore_n (lv' := [(2, .int (0 : Int32)), (1, .int v_3), (0, .ref (G.2.1 35))]) hC.x hC.b dX10_close_108 rfl hl (by decide) rfl (fun ls hl => ?_)
            have rd_147 : (s_14 35 29).toInt = (s1 35 29).toInt := congrArg Int32.toInt (Eq.trans (show s_14 35 29 = s_10 35 29 from (by rw [es_15]; exact up2_o (by omega))) (Eq.trans (show s_10 35 29 = s_7 35 29 from (by rw [es_11]; exact up2_o (by omega))) (show s_7 35 29 = s1 35 29 from (by rw [es_8]; exact up2_o (by omega)))))
            have rd_148 : (s_14 35 33).toInt = (s1 35 33).toInt := congrArg Int32.toInt (Eq.trans (show s_14 35 33 = s_10 35 33 from (by rw [es_15]; exact up2_o (by omega))) (Eq.trans (show s_10 35 33 = s_7 35 33 from (by rw [es_11]; exact up2_o (by omega))) (show s_7 35 33 = s1 35 33 from (by rw [es_8]; exact up2_o (by omega)))))
            exact L_109 (0 : Int32) s_14 τ (by exact (by rw [es_15]; exact KM.up (by rw [es_11]; exact KM.up (by rw [es_8]; exact KM.up hi0_14 (by omega)) (by omega)) (by omega))) (by omega) (by exact CMV.z (K6.mr (σ := σ) (s := s1) hi3_14 (by intro k h1 h2; first | omega | (dsimp only at h2; omega)) (by omega)) (by assumption) (by omega)) (by rw [es_15]; exact MRel.up ((by rw [es_11]; exact MRel.up ((by rw [es_8]; exact MRel.up (hi3_14) (by omega) (by first | omega | (dsimp only; omega)))) (by omega) (by first | omega | (dsimp only; omega)))) (by omega) (by first | omega | (dsimp only; omega))) _ _ _ hR hS (lv_sub hl [2, 0] rfl)
        · skip
          refine lv_aload_n hC.x hC.b dX10_close_20 rfl (lv_at hl 0 rfl) ?_
          refine rget hC hK hR (ct_model G _ _) rfl uin_X10 16 (by decide) TF_X10_59 rfl dX10_close_21 ?_
          refine lv_aload_n hC.x hC.b dX10_close_24 rfl (lv_at hl 0 rfl) ?_
          refine lv_aload_n hC.x hC.b dX10_close_25 rfl (lv_at hl 0 rfl) ?_
          refine rget hC hK hR (ct_model G _ _) rfl uin_X10 29 (by decide) TF_X10_137 rfl dX10_close_26 ?_
          refine lv_iload_n hC.x hC.b dX10_close_29 rfl (lv_at hl 1 rfl) ?_
          have av_149 : (nI n).toInt = (n : Int) := (nI_T n (by omega))
          refine goip (runV (As := [.int (s1 35 29), .int (nI n)]) (rest := [.ref (G.2.1 52)]) hC hK hR hl.1 (c_X10_at l hG s1 τ (s1 35 29) (((s1 35 29).toInt).toNat) (by first | rfl | (rw [show (s1 35 29).toInt = (s1 35 29).toInt from rfl]; done) | (rw [show (s1 35 29).toInt = (s1 35 29).toInt from rfl]; exact rfl)) (nI n) n (by first | rfl | (rw [show (nI n).toInt = (n : Int) from (nI_T n (by omega))]; done) | (rw [show (nI n).toInt = (n : Int) from (nI_T n (by omega))]; exact (Int.toNat_natCast _))) (by omega) (by omega)) (call_b hC.ts TC_X10_at TN_X10 TM_X10_140 hd_X10_at ⟨Nat.le_of_ble_eq_true rfl, Nat.le_of_ble_eq_true rfl⟩) TI_X10_at TS_X10_at (ct_model G _ _) rfl rfl rfl (Nat.le_of_ble_eq_true rfl) dX10_close_30 ⟨Nat.le_of_ble_eq_true rfl, Nat.le_of_ble_eq_true rfl⟩) hS (fun v_150 H locs w_151 hR hS => ?_)
          subst w_151
          refine lv_iconst (v := 0) hC.x hC.b dX10_close_33 (by decide) ?_
          refine zast hC hK hG hR hS (fun _ => ct_m_hasX G _ _) (nI_T _ (by omega)) (by omega) (by omega) (Int.toNat_natCast _) (Or.inl rfl) dX10_close_34 (fun s_152 es_153 H locs hR hS => ?_)
          refine lv_aload_n hC.x hC.b dX10_close_35 rfl (lv_at hl 0 rfl) ?_
          refine rget hC hK hR (ct_model G _ _) rfl uin_X10 17 (by decide) TF_X10_62 rfl dX10_close_36 ?_
          refine lv_aload_n hC.x hC.b dX10_close_39 rfl (lv_at hl 0 rfl) ?_
          refine lv_aload_n hC.x hC.b dX10_close_40 rfl (lv_at hl 0 rfl) ?_
          refine rget hC hK hR (ct_model G _ _) rfl uin_X10 29 (by decide) TF_X10_137 rfl dX10_close_41 ?_
          have rd_154 : (s_152 35 29).toInt = (s1 35 29).toInt := congrArg Int32.toInt (show s_152 35 29 = s1 35 29 from (by rw [es_153]; exact up2_o (by omega)))
          refine lv_iload_n hC.x hC.b dX10_close_44 rfl (lv_at hl 1 rfl) ?_
          have av_155 : (nI n).toInt = (n : Int) := (nI_T n (by omega))
          refine goip (runV (As := [.int (s_152 35 29), .int (nI n)]) (rest := [.ref (G.2.1 53)]) hC hK hR hl.1 (c_X10_at l hG s_152 τ (s_152 35 29) (((s_152 35 29).toInt).toNat) (by first | rfl | (rw [show (s_152 35 29).toInt = (s_152 35 29).toInt from rfl]; done) | (rw [show (s_152 35 29).toInt = (s_152 35 29).toInt from rfl]; exact rfl)) (nI n) n (by first | rfl | (rw [show (nI n).toInt = (n : Int) from (nI_T n (by omega))]; done) | (rw [show (nI n).toInt = (n : Int) from (nI_T n (by omega))]; exact (Int.toNat_natCast _))) (by omega) (by omega)) (call_b hC.ts TC_X10_at TN_X10 TM_X10_140 hd_X10_at ⟨Nat.le_of_ble_eq_true rfl, Nat.le_of_ble_eq_true rfl⟩) TI_X10_at TS_X10_at (ct_model G _ _) rfl rfl rfl (Nat.le_of_ble_eq_true rfl) dX10_close_45 ⟨Nat.le_of_ble_eq_true rfl, Nat.le_of_ble_eq_true rfl⟩) hS (fun v_156 H locs w_157 hR hS => ?_)
          subst w_157
          refine lv_iconst (v := 0) hC.x hC.b dX10_close_48 (by decide) ?_
          refine zast hC hK hG hR hS (fun _ => ct_m_hasF G _ _) (nI_T _ (by omega)) (by omega) (by omega) (Int.toNat_natCast _) (Or.inl rfl) dX10_close_49 (fun s_158 es_159 H locs hR hS => ?_)
          refine lv_iinc (v := nI (n + 1)) (lv' := [(1, .int (nI (n + 1))), (0, .ref (G.2.1 35))]) hC.x hC.b dX10_close_50 hl (k := 1) rfl (nI_succ _).symm (by decide) rfl (fun ls hl => ?_)
          refine lv_goto (tgt := 14) hC.x hC.b dX10_close_53 (by decide) ?_
          have rd_160 : (s_158 35 29).toInt = (s1 35 29).toInt := congrArg Int32.toInt (Eq.trans (show s_158 35 29 = s_152 35 29 from (by rw [es_159]; exact up2_o (by omega))) (show s_152 35 29 = s1 35 29 from (by rw [es_153]; exact up2_o (by omega))))
          have rd_161 : (s_158 35 33).toInt = (s1 35 33).toInt := congrArg Int32.toInt (Eq.trans (show s_158 35 33 = s_152 35 33 from (by rw [es_159]; exact up2_o (by omega))) (show s_152 35 33 = s1 35 33 from (by rw [es_153]; exact up2_o (by omega))))
          exact ih_14 (n + 1) s_158 (by omega) (by exact (by rw [es_159]; exact KM.up (by rw [es_153]; exact KM.up hi0_14 (by omega)) (by omega))) (by first | omega | assumption) (by omega) (by rw [es_159]; exact MRel.up ((by rw [es_153]; exact MRel.up (hi3_14) (by omega) (by first | omega | (dsimp only; omega)))) (by omega) (by first | omega | (dsimp only; omega))) _ _ _ hR hS (lv_sub hl [1, 0] rfl)
    exact L_14 _ 0 σ (Nat.lt_succ_self _) (by exact hkm) (by first | omega | assumption) (by exact ⟨rfl, rfl⟩) MRel.rf _ _ _ hR hS (lv_sub hl [1, 0] rfl)
  · skip
    refine lv_iconst (v := (-1)) hC.x hC.b dX10_close_10 (by decide) ?_
    exact reti hC hK hR hS (by first | exact Or.inl (⟨by first | rfl | omega, by exact MRel.rf, by first | omega | assumption, by rfl⟩) | exact Or.inr ((⟨by exact MRel.rf, by first | omega | assumption, by exact hkm, by first | omega | (dsimp only; omega), by first | omega | (dsimp only; omega), by assumption⟩)) | exact False.elim (by omega)) dX10_close_11

/-! ===== both sides' close answers the same ===== -/
theorem cl9 {σ : SI} {τ : SL} {v : Int32} {u : SI × SL} (w : po4_X9_close σ τ v u) : po_X9_close σ τ v u := by
  rcases w with h | ⟨a, b, c, d, -⟩
  · exact Or.inl h
  · exact Or.inr ⟨a, b, c, d⟩
theorem cl10 {σ : SI} {τ : SL} {v : Int32} {u : SI × SL} (w : po4_X10_close σ τ v u) : po_X10_close σ τ v u := by
  rcases w with h | ⟨a, b, c, d, e, -⟩
  · exact Or.inl h
  · exact Or.inr ⟨a, b, c, d, e⟩
theorem tk_ag {σ : SI} {p : Nat} (h : Rel σ) (hp : p < 24) : TkC σ p ↔ TkM σ p := by
  have hP := h p hp
  unfold TkC TkM
  rw [hP.1]
  constructor
  · rintro ⟨a, b, c, d⟩
    have hK := hP.2.2.2 ⟨a, b⟩
    rw [hK.2.2.1] at c
    rw [hK.1, hK.2.2.2] at d
    exact ⟨a, b, c, d⟩
  · rintro ⟨a, b, c, d⟩
    have hK := hP.2.2.2 ⟨a, b⟩
    rw [hK.1, hK.2.2.1, hK.2.2.2]
    exact ⟨a, b, c, d⟩
theorem go_len {σ s s2 : SI} {r p m : Nat} {ra hr z : Int32} {hq : Nat} (hB : BQ (UM σ hr hq) (xM σ) (yM σ) (fun l => toldM σ l hr hq) r (24 * m) s) (hm : (s 12 6).toInt = (m : Int)) (hra : ra.toInt = (r : Int)) (hrp : r ≤ p) (hp : p < 24) (g : GO σ s2 (nI p) ra hr hq z) :
    (z = 0 ∧ (s 14 p).toInt = -1) ∨ (z = 1 ∧ (s 14 p).toInt ≠ -1) := by
  have ep : (nI p).toInt = (p : Int) := nI_T p (by omega)
  obtain ⟨f, hI, hL, hz⟩ := g
  rw [ep, hra, show (max (p : Int) (r : Int)).toNat = p by omega] at hI
  rw [ep, hra, show (max (p : Int) (r : Int)).toNat = p by omega, show (min (p : Int) (r : Int)).toNat = r by omega] at hz
  obtain ⟨c1, c2⟩ := ways_core hB hm hI hL hp
  rcases hz with ⟨z0, z1⟩ | ⟨z0, g', lk, k, g1, g2, g3, g4, -⟩
  · exact Or.inl ⟨z0, c1 z1⟩
  · refine Or.inr ⟨z0, ?_⟩
    rw [(c2 g' lk k g1 g2 g3 g4).1]
    omega
theorem ag_present {σ : SI} {v v2 : Int32} (h : Rel σ) (hE : EN σ) (hn : 0 ≤ (σ 35 29).toInt ∧ (σ 35 29).toInt ≤ 200) (w : CHV σ (σ 35 29) v) (w2 : CMV σ v2) : v = v2 := by
  rcases w with ⟨a1, a2⟩ | ⟨r, r1, r2, r3⟩ <;> rcases w2 with ⟨b1, b2⟩ | ⟨ra, q1, q2, q3, q4⟩
  · rw [a1, b1]
  · exact absurd ((tk_ag h (by omega)).mpr q3.1) (a2 _ (by omega))
  · exact absurd ((tk_ag h r1).mp r2.1) (b2 _ r1)
  · have er : ra.toInt.toNat = r := by
      rcases Nat.lt_trichotomy ra.toInt.toNat r with z | z | z
      · exact absurd ((tk_ag h (by omega)).mpr q3.1) (r2.2 _ z)
      · exact z
      · exact absurd ((tk_ag h r1).mp r2.1) (q3.2 _ z)
    obtain ⟨s, m, c1, c2, c3⟩ := r3 _ _ _ _ (lv_of h hE hn rfl hn.1 (Int.le_refl _))
    have least : ∀ p, p < 24 → TkM σ p → r ≤ p := fun p hp t => by
      rcases Nat.lt_or_ge p r with z | z
      · exact absurd ((tk_ag h hp).mpr t) (r2.2 p z)
      · exact z
    refine CntR.u 24 (fun p hp t t' => ?_) (fun p hp t t' => ?_) c3 q4
    · rcases t' with t' | ⟨s2, t'⟩
      · exact t' ((tk_ag h hp).mp t.1)
      · rcases go_len c1 c2 (by omega) (least p hp ((tk_ag h hp).mp t.1)) hp t' with ⟨-, z⟩ | ⟨z, -⟩
        · exact t.2 z
        · exact absurd z (by decide)
    · obtain ⟨t1, s2, t2⟩ := t'
      rcases t with t | t
      · exact t ((tk_ag h hp).mpr t1)
      · rcases go_len c1 c2 (by omega) (least p hp t1) hp t2 with ⟨z, -⟩ | ⟨-, z⟩
        · exact absurd z (by decide)
        · exact z t
theorem ag_close {σ s1 s2 : SI} {τ t1 t2 : SL} {v v2 : Int32} (h : Rel σ) (hE : EN σ) (hn : 0 ≤ (σ 35 29).toInt ∧ (σ 35 29).toInt ≤ 200) (hw : σ 0 8 = σ 35 29) (w : po4_X9_close σ τ v (s1, t1)) (w2 : po4_X10_close s1 t1 v2 (s2, t2)) : v = v2 := by
  rcases w with ⟨w, e, -, w0⟩ | ⟨w0, wc, -, -, w⟩
  · have e : s1 = σ := e
    rw [e] at w2
    rw [hw] at w0
    rcases w2 with ⟨w2, -⟩ | ⟨-, w2, -⟩
    · rw [w, w2]
    · exfalso; omega
  · have wc : ClC σ s1 := wc
    have hx : ∀ k, 35 ≤ k → k < 80 → s1 k = σ k := fun k a b => wc.1 k (by omega)
    have h6 : K6 σ s1 := ⟨fun k hk => hx k (by omega) (by omega), by rw [hx 35 (by omega) (by omega)]⟩
    have e29 := h6.2
    rw [hw] at w0 w
    rcases w2 with ⟨-, -, w2, -⟩ | ⟨-, -, -, -, -, w2⟩
    · exfalso
      rw [e29] at w2
      omega
    · refine ag_present h hE hn w ?_
      rcases w2 with ⟨b1, b2⟩ | ⟨ra, q1, q2, q3, q4⟩
      · exact Or.inl ⟨b1, fun q hq t => b2 q hq ((TkM_x h6).mpr t)⟩
      · refine Or.inr ⟨ra, q1, q2, ⟨(TkM_x h6).mp q3.1, fun q hq t => q3.2 q hq ((TkM_x h6).mpr t)⟩, CntR.mo 24 (fun p _ t => ?_) (fun p _ t => ?_) q4⟩
        · obtain ⟨t1, s3, t2⟩ := t
          exact pm_mk h6 t1 t2
        · rcases t with t | ⟨s3, t⟩
          · exact qm_0 h6 t
          · exact qm_1 h6 t
