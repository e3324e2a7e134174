/-! ===== both sides tell of the same bench ===== -/
def RD (σ : SI) (a x y j h : Nat) : Prop := ((σ y (24 * h + j)).toInt ≠ 0 ∧ σ a h = σ x (24 * h + j) ∧ (σ x (24 * h + j)).toInt ≠ 1000000) ∨ (σ y (24 * h + j) = 0 ∧ σ a h = 1000000)
def LR (σ : SI) (j : Nat) : Prop := σ (104 + j) 0 = σ 36 j ∧ σ (104 + j) 1 = σ 37 j ∧ σ (104 + j) 2 = σ 38 j ∧ σ (104 + j) 3 = σ 47 j ∧ ∀ h, h < 201 → RD σ (128 + j) 48 50 j h ∧ RD σ (152 + j) 49 51 j h
def KR (σ : SI) (j : Nat) : Prop := σ (80 + j) 1 = σ 36 j ∧ σ (80 + j) 4 = σ 42 j ∧ σ (80 + j) 5 = σ 39 j ∧ σ (80 + j) 6 = σ 40 j
def PR (σ : SI) (j : Nat) : Prop := σ 2 j = σ 36 j ∧ (-1 ≤ (σ 36 j).toInt ∧ (σ 36 j).toInt ≤ 7) ∧ (4 ≤ (σ 36 j).toInt ∧ (σ 36 j).toInt ≤ 6 → LR σ j) ∧ (0 ≤ (σ 36 j).toInt ∧ (σ 36 j).toInt ≤ 3 → KR σ j)
def Rel (σ : SI) : Prop := ∀ j, j < 24 → PR σ j
def PlEq (σ s : SI) (j : Nat) : Prop :=
  (∀ k, (k = 2 ∨ (36 ≤ k ∧ k ≤ 42 ∧ k ≠ 41) ∨ k = 47) → s k j = σ k j) ∧ (∀ i, i < 4 → s (104 + j) i = σ (104 + j) i) ∧ (∀ h, s (128 + j) h = σ (128 + j) h ∧ s (152 + j) h = σ (152 + j) h) ∧ (∀ k h, 48 ≤ k → k ≤ 51 → h < 201 → s k (24 * h + j) = σ k (24 * h + j)) ∧ (∀ i, (i = 1 ∨ (4 ≤ i ∧ i ≤ 6)) → s (80 + j) i = σ (80 + j) i)
theorem PlEq.rf {σ : SI} {j : Nat} : PlEq σ σ j := ⟨fun _ _ => rfl, fun _ _ => rfl, fun _ => ⟨rfl, rfl⟩, fun _ _ _ _ _ => rfl, fun _ _ => rfl⟩
theorem PlEq.tr {σ s s2 : SI} {j : Nat} (h : PlEq σ s j) (h2 : PlEq s s2 j) : PlEq σ s2 j :=
  ⟨fun k hk => (h2.1 k hk).trans (h.1 k hk), fun i hi => (h2.2.1 i hi).trans (h.2.1 i hi), fun i => ⟨(h2.2.2.1 i).1.trans (h.2.2.1 i).1, (h2.2.2.1 i).2.trans (h.2.2.1 i).2⟩, fun k i a b c => (h2.2.2.2.1 k i a b c).trans (h.2.2.2.1 k i a b c), fun i hi => (h2.2.2.2.2 i hi).trans (h.2.2.2.2 i hi)⟩
theorem up2_k {α : Type} {σ : Nat → Nat → α} {k i : Nat} {x : α} {k' i' : Nat} (h : k' = k → i' ≠ i) : up2 σ k i x k' i' = σ k' i' := by
  by_cases e : k' = k
  · subst e; exact up2_n (h rfl)
  · exact up2_o e
theorem PlEq.up {σ s : SI} {j k i : Nat} {x : Int32} (h : PlEq σ s j) (c1 : (k = 2 ∨ (36 ≤ k ∧ k ≤ 42 ∧ k ≠ 41) ∨ k = 47) → i ≠ j) (c2 : k = 104 + j → 4 ≤ i) (c3 : k ≠ 128 + j ∧ k ≠ 152 + j) (c4 : 48 ≤ k → k ≤ 51 → ∀ h, h < 201 → i ≠ 24 * h + j) (c5 : k = 80 + j → i ≠ 1 ∧ (i < 4 ∨ 6 < i)) : PlEq σ (up2 s k i x) j :=
  ⟨fun k' hk => (up2_k (fun e => by subst e; exact (c1 hk).symm)).trans (h.1 k' hk), fun i' hi => (up2_k (fun e => by have := c2 e.symm; omega)).trans (h.2.1 i' hi), fun i' => ⟨(up2_o (fun e => c3.1 e.symm)).trans (h.2.2.1 i').1, (up2_o (fun e => c3.2 e.symm)).trans (h.2.2.1 i').2⟩,
    fun k' i' a b d => (up2_k (fun e => by subst e; exact (c4 a b i' d).symm)).trans (h.2.2.2.1 k' i' a b d), fun i' hi => (up2_k (fun e => by have := c5 e.symm; omega)).trans (h.2.2.2.2 i' hi)⟩
theorem PlEq.fr {S : Nat → Prop} {σ s s1 : SI} {j : Nat} (h : PlEq σ s j) (r : Fr S s s1) (hS : ∀ k, S k → (5 ≤ k ∧ k ≤ 35) ∨ k = 0 ∨ ((128 ≤ k) ∧ k ≠ 128 + j ∧ k ≠ 152 + j)) (hj : j < 24) : PlEq σ s1 j :=
  h.tr ⟨fun k hk => by rw [r k (fun q => by have := hS k q; omega)], fun i hi => by rw [r _ (fun q => by have := hS _ q; omega)], fun i => ⟨by rw [r _ (fun q => by have := hS _ q; omega)], by rw [r _ (fun q => by have := hS _ q; omega)]⟩, fun k i a b d => by rw [r k (fun q => by have := hS k q; omega)], fun i hi => by rw [r _ (fun q => by have := hS _ q; omega)]⟩
theorem PlEq.mr {S J : Nat → Prop} {σ s s1 : SI} {j : Nat} (h : PlEq σ s j) (r : MRel S J s s1) (hS : ∀ k, S k → k = 41 ∨ (43 ≤ k ∧ k ≤ 46) ∨ (52 ≤ k ∧ k < 80)) (hj : j < 24) : PlEq σ s1 j :=
  h.tr ⟨fun k hk => by rw [r.1 k (by omega) (fun q => by have := hS k q; omega)], fun i hi => by rw [r.1 _ (by omega) (fun q => by have := hS _ q; omega)], fun i => ⟨by rw [r.1 _ (by omega) (fun q => by have := hS _ q; omega)], by rw [r.1 _ (by omega) (fun q => by have := hS _ q; omega)]⟩, fun k i a b d => by rw [r.1 k (by omega) (fun q => by have := hS k q; omega)], fun i hi => by rw [r.1 _ (by omega) (fun q => by have := hS _ q; omega)]⟩
theorem PlEq.tornN {σ s s1 : SI} {j q n : Nat} (h : PlEq σ s j) (r : TornN s s1 q n) (hj : j < 24) (hq : q < 24) (hne : j ≠ q) : PlEq σ s1 j :=
  h.tr ⟨fun k hk => by rw [r.1 k (fun q => by omega)], fun i hi => by rw [r.1 _ (fun q => by omega)], fun i => ⟨by rw [r.1 _ (fun q => by omega)], by rw [r.1 _ (fun q => by omega)]⟩, fun k i a b d => by
    by_cases e : k = 50 ∨ k = 51
    · have h2 := r.2.2 (24 * i + j) (fun h hh => by omega)
      rcases e with rfl | rfl
      · exact h2.1
      · exact h2.2
    · rw [r.1 k e], fun i hi => by rw [r.1 _ (fun q => by omega)]⟩
theorem RD.ex {σ s : SI} {a x y j h : Nat} (g : RD σ a x y j h) (e1 : s a h = σ a h) (e2 : s x (24 * h + j) = σ x (24 * h + j)) (e3 : s y (24 * h + j) = σ y (24 * h + j)) : RD s a x y j h := by
  unfold RD
  rw [e1, e2, e3]
  exact g
theorem PR.ex {σ s : SI} {j : Nat} (h : PR σ j) (e : PlEq σ s j) : PR s j := by
  obtain ⟨a1, a2, a3, a4⟩ := h
  obtain ⟨e1, e2, e3, e4, e5⟩ := e
  unfold PR
  rw [e1 2 (by omega), e1 36 (by omega)]
  refine ⟨a1, a2, fun hk => ?_, fun hk => ?_⟩
  · obtain ⟨b1, b2, b3, b4, b5⟩ := a3 hk
    unfold LR
    rw [e2 0 (by omega), e2 1 (by omega), e2 2 (by omega), e2 3 (by omega), e1 36 (by omega), e1 37 (by omega), e1 38 (by omega), e1 47 (by omega)]
    exact ⟨b1, b2, b3, b4, fun h hh => ⟨(b5 h hh).1.ex (e3 h).1 (e4 48 h (by omega) (by omega) hh) (e4 50 h (by omega) (by omega) hh), (b5 h hh).2.ex (e3 h).2 (e4 49 h (by omega) (by omega) hh) (e4 51 h (by omega) (by omega) hh)⟩⟩
  · have b := a4 hk
    unfold KR
    rw [e5 1 (by omega), e5 4 (by omega), e5 5 (by omega), e5 6 (by omega), e1 36 (by omega), e1 42 (by omega), e1 39 (by omega), e1 40 (by omega)]
    exact b
theorem Rel.ex {σ s : SI} (h : Rel σ) (e : ∀ j, j < 24 → PlEq σ s j) : Rel s := fun j hj => (h j hj).ex (e j hj)
/-- all but place q stays, place q is looked at -/
theorem Rel.at {σ s : SI} {q : Nat} (h : Rel σ) (e : ∀ j, j < 24 → j ≠ q → PlEq σ s j) (hq : q < 24 → PR s q) : Rel s := fun j hj => by
  by_cases g : j = q
  · subst g; exact hq hj
  · exact (h j hj).ex (e j hj g)
def Inv2 (σ : SI) : Prop := Inv σ ∧ Rel σ
theorem rel_0 : Rel s0 := fun j hj => by
  have e36 : s0 36 j = -1 := rfl
  refine ⟨rfl, by rw [e36]; decide, fun hk => ?_, fun hk => ?_⟩
  · rw [e36] at hk
    exact absurd hk (by decide)
  · rw [e36] at hk
    exact absurd hk (by decide)
section RELK
variable {σ s1 s2 : SI} {τ t1 t2 : SL} {v v2 : Int32} {pl ka fa sa xa ya wa hr oa : Int32} {q fq sq xq yq hq : Nat}
theorem rel_kq (h : Rel σ) (hq : pl.toInt.toNat = q) : (0 ≤ pl.toInt ∧ pl.toInt < 24) → (σ 2 q).toInt = (σ 36 q).toInt ∧ -1 ≤ (σ 36 q).toInt ∧ (σ 36 q).toInt ≤ 7 := fun hp => by
  have h1 := h q (by omega)
  exact ⟨by rw [h1.1], h1.2.1⟩
set_option maxHeartbeats 4000000 in
theorem rel_put (h : Rel σ) (hI : IC σ) (hq : pl.toInt.toNat = q) (hfq : fa.toInt.toNat = fq) (hsq : sa.toInt.toNat = sq) (w : po_X9_put σ τ pl q ka fa fq sa sq v (s1, t1)) (w2 : po_X10_put s1 t1 pl q ka fa fq sa sq v2 (s2, t2)) : Rel s2 ∧ v = v2 := by
  have hcn := (cn_put hI hq w).1
  have c36 : s1 36 = σ 36 := hcn 36 (by omega) (by omega)
  have kq := rel_kq h hq
  have kf := rel_kq h hfq
  have ks := rel_kq h hsq
  rcases w with ⟨e0, e, -, n1, n2, n3⟩ | ⟨e0, e, -, hp⟩ | ⟨e0, -, hp, hT⟩ | ⟨e0, e, -, hp⟩
  · have e : s1 = σ := e
    subst e
    rcases w2 with ⟨f0, f, -⟩ | ⟨f0, -, -, hp⟩
    · have f : s2 = s1 := f
      subst f
      exact ⟨h, e0.trans f0.symm⟩
    · exfalso
      rcases hp with hp | hp | hp
      · exact n1 (by omega)
      · exact n2 (by omega)
      · exact n3 (by omega)
  · have hql : q < 24 := by omega
    rcases w2 with ⟨f0, f, -, n1, n2, n3⟩ | ⟨f0, -, hN, hp2⟩
    · exfalso
      rw [c36] at n1
      exact n1 (by omega)
    · have hN : TornN _ s2 q 201 := hN
      have e : s1 = _ := e
      refine ⟨Rel.at (q := q) h (fun j hj hne => ?_) (fun _ => ?_), e0.trans f0.symm⟩
      · refine PlEq.tornN ?_ hN hj hql hne
        rw [e]
        exact ((((((((((((((((((((((((PlEq.rf).up (by omega) (by omega) (by omega) (by omega) (by omega)).up (by omega) (by omega) (by omega) (by omega) (by omega)).up (by omega) (by omega) (by omega) (by omega) (by omega)).up (by omega) (by omega) (by omega) (by omega) (by omega)).up (by omega) (by omega) (by omega) (by omega) (by omega)).up (by omega) (by omega) (by omega) (by omega) (by omega)).up (by omega) (by omega) (by omega) (by omega) (by omega)).up (by omega) (by omega) (by omega) (by omega) (by omega)).up (by omega) (by omega) (by omega) (by omega) (by omega)).up (by omega) (by omega) (by omega) (by omega) (by omega)).up (by omega) (by omega) (by omega) (by omega) (by omega)).up (by omega) (by omega) (by omega) (by omega) (by omega)).up (by omega) (by omega) (by omega) (by omega) (by omega)).up (by omega) (by omega) (by omega) (by omega) (by omega)).up (by omega) (by omega) (by omega) (by omega) (by omega)).up (by omega) (by omega) (by omega) (by omega) (by omega)).up (by omega) (by omega) (by omega) (by omega) (by omega)).up (by omega) (by omega) (by omega) (by omega) (by omega)).up (by omega) (by omega) (by omega) (by omega) (by omega)).up (by omega) (by omega) (by omega) (by omega) (by omega)).up (by omega) (by omega) (by omega) (by omega) (by omega)).up (by omega) (by omega) (by omega) (by omega) (by omega)).up (by omega) (by omega) (by omega) (by omega) (by omega)).up (by omega) (by omega) (by omega) (by omega) (by omega)
      · have g : ∀ k, k ≠ 50 → k ≠ 51 → s2 k = _ := fun k h1 h2 => hN.1 k (by omega)
        have k36 : s2 36 q = ka := by rw [g 36 (by decide) (by decide)]; (repeat (first | rw [up2_o (by omega)] | rw [up2_n (by omega)] | rw [up2_s]))
        refine ⟨?_, by rw [k36]; omega, fun hk => ?_, fun _ => ⟨?_, ?_, ?_, ?_⟩⟩
        · rw [k36, g 2 (by decide) (by decide), e]; (repeat (first | rw [up2_o (by omega)] | rw [up2_n (by omega)] | rw [up2_s]))
        · rw [k36] at hk; exfalso; omega
        · rw [k36, g (80 + q) (by omega) (by omega), e]; (repeat (first | rw [up2_o (by omega)] | rw [up2_n (by omega)] | rw [up2_s]))
        · rw [g 42 (by decide) (by decide), g (80 + q) (by omega) (by omega), e]; (repeat (first | rw [up2_o (by omega)] | rw [up2_n (by omega)] | rw [up2_s]))
        · rw [g 39 (by decide) (by decide), g (80 + q) (by omega) (by omega), e]; (repeat (first | rw [up2_o (by omega)] | rw [up2_n (by omega)] | rw [up2_s]))
        · rw [g 40 (by decide) (by decide), g (80 + q) (by omega) (by omega), e]; (repeat (first | rw [up2_o (by omega)] | rw [up2_n (by omega)] | rw [up2_s]))
  · have hql : q < 24 := by omega
    rcases w2 with ⟨f0, f, -, n1, n2, n3⟩ | ⟨f0, -, hN, hp2⟩
    · exfalso
      rw [c36] at n2
      exact n2 (by omega)
    · have hN : TornN _ s2 q 201 := hN
      have hT : Torn _ s1 q := hT
      refine ⟨Rel.at (q := q) h (fun j hj hne => ?_) (fun _ => ?_), e0.trans f0.symm⟩
      · refine PlEq.tornN ?_ hN hj hql hne
        refine (((((((((((((?_ : PlEq σ s1 j)).up (by omega) (by omega) (by omega) (by omega) (by omega)).up (by omega) (by omega) (by omega) (by omega) (by omega)).up (by omega) (by omega) (by omega) (by omega) (by omega)).up (by omega) (by omega) (by omega) (by omega) (by omega)).up (by omega) (by omega) (by omega) (by omega) (by omega)).up (by omega) (by omega) (by omega) (by omega) (by omega)).up (by omega) (by omega) (by omega) (by omega) (by omega)).up (by omega) (by omega) (by omega) (by omega) (by omega)).up (by omega) (by omega) (by omega) (by omega) (by omega)).up (by omega) (by omega) (by omega) (by omega) (by omega)).up (by omega) (by omega) (by omega) (by omega) (by omega)).up (by omega) (by omega) (by omega) (by omega) (by omega)
        refine PlEq.fr ?_ hT.1 (fun k hk => by omega) hj
        exact (((((PlEq.rf).up (by omega) (by omega) (by omega) (by omega) (by omega)).up (by omega) (by omega) (by omega) (by omega) (by omega)).up (by omega) (by omega) (by omega) (by omega) (by omega)).up (by omega) (by omega) (by omega) (by omega) (by omega)).up (by omega) (by omega) (by omega) (by omega) (by omega)
      · have g : ∀ k, k ≠ 50 → k ≠ 51 → s2 k = _ := fun k h1 h2 => hN.1 k (by omega)
        have gs : ∀ k, k ≠ 128 + q → k ≠ 152 + q → s1 k = _ := fun k h1 h2 => hT.1 k (by omega)
        have k36 : s2 36 q = ka := by rw [g 36 (by decide) (by decide)]; (repeat (first | rw [up2_o (by omega)] | rw [up2_n (by omega)] | rw [up2_s]))
        refine ⟨?_, by rw [k36]; omega, fun _ => ⟨?_, ?_, ?_, ?_, fun i hi => ⟨Or.inr ⟨(hN.2.1 i hi).1, ?_⟩, Or.inr ⟨(hN.2.1 i hi).2, ?_⟩⟩⟩, fun hk => ?_⟩
        · rw [k36, g 2 (by decide) (by decide)]; (repeat (first | rw [up2_o (by omega)] | rw [up2_n (by omega)] | rw [up2_s])); rw [gs 2 (by omega) (by omega)]; (repeat (first | rw [up2_o (by omega)] | rw [up2_n (by omega)] | rw [up2_s]))
        · rw [k36, g (104 + q) (by omega) (by omega)]; (repeat (first | rw [up2_o (by omega)] | rw [up2_n (by omega)] | rw [up2_s])); rw [gs (104 + q) (by omega) (by omega)]; (repeat (first | rw [up2_o (by omega)] | rw [up2_n (by omega)] | rw [up2_s]))
        · rw [g 37 (by decide) (by decide), g (104 + q) (by omega) (by omega)]; (repeat (first | rw [up2_o (by omega)] | rw [up2_n (by omega)] | rw [up2_s])); rw [gs (104 + q) (by omega) (by omega)]; (repeat (first | rw [up2_o (by omega)] | rw [up2_n (by omega)] | rw [up2_s]))
        · rw [g 38 (by decide) (by decide), g (104 + q) (by omega) (by omega)]; (repeat (first | rw [up2_o (by omega)] | rw [up2_n (by omega)] | rw [up2_s])); rw [gs (104 + q) (by omega) (by omega)]; (repeat (first | rw [up2_o (by omega)] | rw [up2_n (by omega)] | rw [up2_s]))
        · rw [g 47 (by decide) (by decide), g (104 + q) (by omega) (by omega)]; (repeat (first | rw [up2_o (by omega)] | rw [up2_n (by omega)] | rw [up2_s])); rw [gs (104 + q) (by omega) (by omega)]; (repeat (first | rw [up2_o (by omega)] | rw [up2_n (by omega)] | rw [up2_s]))
        · rw [g (128 + q) (by omega) (by omega)]; (repeat (first | rw [up2_o (by omega)] | rw [up2_n (by omega)] | rw [up2_s])); exact (hT.2 i hi).1
        · rw [g (152 + q) (by omega) (by omega)]; (repeat (first | rw [up2_o (by omega)] | rw [up2_n (by omega)] | rw [up2_s])); exact (hT.2 i hi).2
        · rw [k36] at hk; exfalso; omega
  · have hql : q < 24 := by omega
    rcases w2 with ⟨f0, f, -, n1, n2, n3⟩ | ⟨f0, -, hN, hp2⟩
    · exfalso
      rw [c36] at n3
      exact n3 (by omega)
    · have hN : TornN _ s2 q 201 := hN
      have e : s1 = _ := e
      refine ⟨Rel.at (q := q) h (fun j hj hne => ?_) (fun _ => ?_), e0.trans f0.symm⟩
      · refine PlEq.tornN ?_ hN hj hql hne
        rw [e]
        exact (((((((((((((PlEq.rf).up (by omega) (by omega) (by omega) (by omega) (by omega)).up (by omega) (by omega) (by omega) (by omega) (by omega)).up (by omega) (by omega) (by omega) (by omega) (by omega)).up (by omega) (by omega) (by omega) (by omega) (by omega)).up (by omega) (by omega) (by omega) (by omega) (by omega)).up (by omega) (by omega) (by omega) (by omega) (by omega)).up (by omega) (by omega) (by omega) (by omega) (by omega)).up (by omega) (by omega) (by omega) (by omega) (by omega)).up (by omega) (by omega) (by omega) (by omega) (by omega)).up (by omega) (by omega) (by omega) (by omega) (by omega)).up (by omega) (by omega) (by omega) (by omega) (by omega)).up (by omega) (by omega) (by omega) (by omega) (by omega)).up (by omega) (by omega) (by omega) (by omega) (by omega)
      · have g : ∀ k, k ≠ 50 → k ≠ 51 → s2 k = _ := fun k h1 h2 => hN.1 k (by omega)
        have k36 : s2 36 q = ka := by rw [g 36 (by decide) (by decide)]; (repeat (first | rw [up2_o (by omega)] | rw [up2_n (by omega)] | rw [up2_s]))
        refine ⟨?_, by rw [k36]; omega, fun hk => ?_, fun hk => ?_⟩
        · rw [k36, g 2 (by decide) (by decide), e]; (repeat (first | rw [up2_o (by omega)] | rw [up2_n (by omega)] | rw [up2_s])); apply i32_ext; rw [hp.2.2]; decide
        · rw [k36] at hk; exfalso; omega
        · rw [k36] at hk; exfalso; omega
theorem hasLk_iff (h : Rel σ) : hasLk σ pl ↔ hasLkM σ pl := by
  constructor
  · rintro ⟨j, hj, a, b, d⟩
    have h1 := h j hj
    rw [h1.1] at a b
    have h2 := h1.2.2.1 ⟨a, b⟩
    rw [h2.2.1, h2.2.2.1] at d
    exact ⟨j, hj, a, b, d⟩
  · rintro ⟨j, hj, a, b, d⟩
    have h1 := h j hj
    have h2 := h1.2.2.1 ⟨a, b⟩
    rw [← h2.2.1, ← h2.2.2.1] at d
    rw [← h1.1] at a b
    exact ⟨j, hj, a, b, d⟩
theorem rel_lift (h : Rel σ) (hq : pl.toInt.toNat = q) (w : po_X9_lift σ τ pl q v (s1, t1)) (w2 : po_X10_lift s1 t1 pl q v2 (s2, t2)) : Rel s2 ∧ v = v2 := by
  have kq := rel_kq h hq
  have hl := hasLk_iff (pl := pl) h
  rcases w with ⟨e0, e, -, a1, a2, a3⟩ | ⟨e0, e, -, a1, a2⟩ | ⟨e0, e, -, a1⟩
  · have e : s1 = σ := e
    subst e
    rcases w2 with ⟨f0, f, -, b1⟩ | ⟨f0, f, -⟩ | ⟨f0, f, -, b1, b2, b3⟩
    · exfalso; omega
    · have f : s2 = s1 := f
      subst f
      exact ⟨h, e0.trans f0.symm⟩
    · exfalso
      rcases b3 with b3 | b3
      · exact b3 (hl.mp a1)
      · omega
  · have e : s1 = _ := e
    have hql : q < 24 := by omega
    have kk := kq a1
    have c36 : s1 36 = σ 36 := by rw [e]; exact up2_ne (by omega)
    have hlm : hasLkM s1 pl ↔ hasLkM σ pl := by
      unfold hasLkM
      rw [c36, show s1 37 = σ 37 by rw [e]; exact up2_ne (by omega), show s1 38 = σ 38 by rw [e]; exact up2_ne (by omega)]
    have hrel : ∀ s : SI, (∀ j, j < 24 → j ≠ q → PlEq σ s j) → s 2 q = -1 → s 36 q = -1 → Rel s := fun s he h2 h36 => Rel.at (q := q) h he (fun _ => ⟨by rw [h2, h36], by rw [h36]; decide, fun hk => by rw [h36] at hk; exact absurd hk (by decide), fun hk => by rw [h36] at hk; exact absurd hk (by decide)⟩)
    rcases w2 with ⟨f0, f, -, b1⟩ | ⟨f0, f, -, b1, b2, b3⟩ | ⟨f0, f, -, b1, b2, b3⟩
    · have f : s2 = s1 := f
      have b1 : ¬ (0 ≤ pl.toInt ∧ pl.toInt < 24) ∨ (s1 36 q).toInt = -1 ∨ ¬ (0 ≤ (s1 36 q).toInt ∧ (s1 36 q).toInt ≤ 7) := b1
      rw [c36] at b1
      have k1 : (σ 36 q).toInt = -1 := by omega
      have k2 : σ 36 q = -1 := i32_ext (by rw [k1]; decide)
      refine ⟨?_, ?_⟩
      · rw [f]
        exact hrel s1 (fun j hj hne => by rw [e]; exact PlEq.rf.up (by omega) (by omega) (by omega) (by omega) (by omega)) (by rw [e]; exact up2_s) (by rw [c36]; exact k2)
      · rw [e0, f0]
        apply i32_ext
        rw [kk.1, k1]
        decide
    · exfalso
      have b1 : hasLkM s1 pl := b1
      have b3 : 0 ≤ (s1 36 q).toInt ∧ (s1 36 q).toInt ≤ 3 := b3
      rw [c36] at b3
      rcases a2 with a2 | a2
      · exact a2 (hl.mpr (hlm.mp b1))
      · omega
    · have f : s2 = _ := f
      refine ⟨hrel s2 (fun j hj hne => by rw [f, e]; exact (PlEq.rf.up (by omega) (by omega) (by omega) (by omega) (by omega)).up (by omega) (by omega) (by omega) (by omega) (by omega)) ?_ ?_, ?_⟩
      · rw [f, e]; (repeat (first | rw [up2_o (by omega)] | rw [up2_n (by omega)] | rw [up2_s]))
      · rw [f]; exact up2_s
      · have f0 : v2 = s1 36 q := f0
        rw [e0, f0, c36]
        exact i32_ext kk.1
  · have e : s1 = σ := e
    subst e
    rcases w2 with ⟨f0, f, -, b1⟩ | ⟨f0, f, -, b1, b2, b3⟩ | ⟨f0, f, -, b1, b2, b3⟩
    · have f : s2 = s1 := f
      subst f
      exact ⟨h, e0.trans f0.symm⟩
    · exfalso; exact a1 b2
    · exfalso; exact a1 b1
theorem ag_kind (h : Rel σ) (hq : pl.toInt.toNat = q) (w : (v = σ 2 q ∧ 0 ≤ pl.toInt ∧ pl.toInt < 24) ∨ (v = -1 ∧ ¬ (0 ≤ pl.toInt ∧ pl.toInt < 24))) (w2 : (v2 = σ 36 q ∧ (0 ≤ pl.toInt ∧ pl.toInt < 24)) ∨ (v2 = -1 ∧ ¬ (0 ≤ pl.toInt ∧ pl.toInt < 24))) : v = v2 := by
  have kq := rel_kq h hq
  rcases w with ⟨e0, a1, a2⟩ | ⟨e0, a1⟩ <;> rcases w2 with ⟨f0, b1⟩ | ⟨f0, b1⟩
  · rw [e0, f0]; exact i32_ext (kq b1).1
  · exfalso; omega
  · exfalso; omega
  · rw [e0, f0]
theorem rel_read (h : Rel σ) (hn : 0 ≤ (σ 35 29).toInt ∧ (σ 35 29).toInt ≤ 200) (hw : σ 0 8 = σ 35 29) (hq : pl.toInt.toNat = q) (w : po_X9_read σ τ pl q xa v (s1, t1)) (w2 : po_X10_read s1 t1 pl q xa v2 (s2, t2)) : Rel s2 ∧ v = v2 := by
  have kq := rel_kq h hq
  rcases w with ⟨e0, e, -, a1⟩ | ⟨e0, e, -, a1, a2, a3⟩ | ⟨e0, e, -, a1, a2, a3⟩
  · have e : s1 = σ := e
    subst e
    rcases w2 with ⟨f0, f, -, b1⟩ | ⟨f0, f, -, b1, b2, b3⟩ | ⟨f0, f, -, b1, b2, b3⟩
    · have f : s2 = s1 := f
      subst f
      exact ⟨h, e0.trans f0.symm⟩
    · exfalso; omega
    · exfalso; omega
  · have e : s1 = σ := e
    subst e
    rcases w2 with ⟨f0, f, -, b1⟩ | ⟨f0, f, -, b1, b2, b3⟩ | ⟨f0, f, -, b1, b2, b3⟩
    · exfalso; omega
    · have f : s2 = s1 := f
      subst f
      exact ⟨h, e0.trans f0.symm⟩
    · exfalso; omega
  · have e : s1 = _ := e
    have hql : q < 24 := by omega
    have c36 : s1 36 = σ 36 := by rw [e]; exact up2_ne (by omega)
    have c35 : s1 35 = σ 35 := by rw [e]; exact up2_ne (by omega)
    rcases w2 with ⟨f0, f, -, b1⟩ | ⟨f0, f, -, b1, b2, b3⟩ | ⟨f0, f, -, b1, b2, b3⟩
    · exfalso; rw [c36] at b1; omega
    · exfalso; rw [c36] at b3; omega
    · have f : s2 = _ := f
      rw [c35] at f
      have kk := kq a1
      have h1 := h q hql
      have hL := h1.2.2.1 (by omega)
      refine ⟨Rel.at (q := q) h (fun j hj hne => ?_) (fun _ => ?_), e0.trans f0.symm⟩
      · rw [f, e]
        exact ((PlEq.rf.up (by omega) (by omega) (by omega) (by omega) (by omega)).up (by omega) (by omega) (by omega) (by omega) (by omega)).up (by omega) (by omega) (by omega) (by omega) (by omega)
      · have g36 : s2 36 = σ 36 := by rw [f, up2_ne (by omega), up2_ne (by omega)]; exact c36
        have gk : ∀ k, k < 48 ∨ (51 < k ∧ k ≠ 128 + q) ∨ k = 49 ∨ k = 51 → s2 k = σ k := fun k hk => by rw [f, up2_ne (by omega), up2_ne (by omega), e, up2_ne (by omega)]
        unfold PR LR KR
        rw [gk 2 (by omega), gk 36 (by omega), gk (104 + q) (by omega), gk 37 (by omega), gk 38 (by omega), gk 47 (by omega), gk (80 + q) (by omega), gk 42 (by omega), gk 39 (by omega), gk 40 (by omega)]
        refine ⟨h1.1, h1.2.1, fun _ => ⟨hL.1, hL.2.1, hL.2.2.1, hL.2.2.2.1, fun i hi => ⟨?_, ?_⟩⟩, h1.2.2.2⟩
        · by_cases ei : i = (σ 35 29).toInt.toNat
          · left
            subst ei
            have x1 : s2 50 (24 * (σ 35 29).toInt.toNat + q) = 1 := by rw [f]; (repeat (first | rw [up2_o (by omega)] | rw [up2_n (by omega)] | rw [up2_s]))
            have x2 : s2 48 (24 * (σ 35 29).toInt.toNat + q) = xa := by rw [f]; (repeat (first | rw [up2_o (by omega)] | rw [up2_n (by omega)] | rw [up2_s]))
            have x3 : s2 (128 + q) (σ 35 29).toInt.toNat = xa := by rw [f, e, hw]; (repeat (first | rw [up2_o (by omega)] | rw [up2_n (by omega)] | rw [up2_s]))
            rw [x1, x2, x3]
            exact ⟨by decide, rfl, by omega⟩
          · refine (hL.2.2.2.2 i hi).1.ex ?_ ?_ ?_
            · rw [f, e, hw]; (repeat (first | rw [up2_o (by omega)] | rw [up2_n (by omega)] | rw [up2_s]))
            · rw [f, e]; (repeat (first | rw [up2_o (by omega)] | rw [up2_n (by omega)] | rw [up2_s]))
            · rw [f, e]; (repeat (first | rw [up2_o (by omega)] | rw [up2_n (by omega)] | rw [up2_s]))
        · refine (hL.2.2.2.2 i hi).2.ex ?_ ?_ ?_
          · rw [gk (152 + q) (by omega)]
          · rw [gk 49 (by omega)]
          · rw [gk 51 (by omega)]
theorem rel_back (h : Rel σ) (hn : 0 ≤ (σ 35 29).toInt ∧ (σ 35 29).toInt ≤ 200) (hw : σ 0 8 = σ 35 29) (hq : pl.toInt.toNat = q) (w : po_X9_back σ τ pl q xa v (s1, t1)) (w2 : po_X10_back s1 t1 pl q xa v2 (s2, t2)) : Rel s2 ∧ v = v2 := by
  have kq := rel_kq h hq
  have kl : (0 ≤ pl.toInt ∧ pl.toInt < 24) → (4 ≤ (σ 36 q).toInt ∧ (σ 36 q).toInt ≤ 6) → (σ (104 + q) 0).toInt = (σ 36 q).toInt := fun a b => by rw [((h q (by omega)).2.2.1 b).1]
  rcases w with ⟨e0, e, -, a1⟩ | ⟨e0, e, -, a1, a2, a3⟩ | ⟨e0, e, -, a1, a2, a3, a4⟩
  · have e : s1 = σ := e
    subst e
    rcases w2 with ⟨f0, f, -, b1⟩ | ⟨f0, f, -, b1, b2, b3⟩ | ⟨f0, f, -, b1, b2, b3⟩
    · have f : s2 = s1 := f
      subst f
      exact ⟨h, e0.trans f0.symm⟩
    · exfalso
      rcases a1 with a1 | a1 | a1
      · exact a1 b1
      · have := kq b1; omega
      · have := kq b1; have := kl b1 (by omega); omega
    · exfalso
      rcases a1 with a1 | a1 | a1
      · exact a1 b1
      · have := kq b1; omega
      · omega
  · have e : s1 = σ := e
    subst e
    have kk := kq a1
    rcases w2 with ⟨f0, f, -, b1⟩ | ⟨f0, f, -, b1, b2, b3⟩ | ⟨f0, f, -, b1, b2, b3⟩
    · exfalso
      rcases b1 with b1 | b1 | b1
      · exact b1 a1
      · omega
      · have := kl a1 (by omega); exact a3 (by omega)
    · have f : s2 = s1 := f
      subst f
      exact ⟨h, e0.trans f0.symm⟩
    · exfalso
      have := kl a1 (by omega)
      exact a3 (by omega)
  · have e : s1 = _ := e
    have hql : q < 24 := by omega
    have c36 : s1 36 = σ 36 := by rw [e]; exact up2_ne (by omega)
    have c35 : s1 35 = σ 35 := by rw [e]; exact up2_ne (by omega)
    have kk := kq a1
    have k6 := kl a1 (by omega)
    rcases w2 with ⟨f0, f, -, b1⟩ | ⟨f0, f, -, b1, b2, b3⟩ | ⟨f0, f, -, b1, b2, b3⟩
    · exfalso; rw [c36] at b1; omega
    · exfalso; rw [c36] at b3; omega
    · have f : s2 = _ := f
      rw [c35] at f
      have h1 := h q hql
      have hL := h1.2.2.1 (by omega)
      refine ⟨Rel.at (q := q) h (fun j hj hne => ?_) (fun _ => ?_), e0.trans f0.symm⟩
      · rw [f, e]
        exact ((PlEq.rf.up (by omega) (by omega) (by omega) (by omega) (by omega)).up (by omega) (by omega) (by omega) (by omega) (by omega)).up (by omega) (by omega) (by omega) (by omega) (by omega)
      · have gk : ∀ k, k < 48 ∨ (51 < k ∧ k ≠ 152 + q) ∨ k = 48 ∨ k = 50 → s2 k = σ k := fun k hk => by rw [f, up2_ne (by omega), up2_ne (by omega), e, up2_ne (by omega)]
        unfold PR LR KR
        rw [gk 2 (by omega), gk 36 (by omega), gk (104 + q) (by omega), gk 37 (by omega), gk 38 (by omega), gk 47 (by omega), gk (80 + q) (by omega), gk 42 (by omega), gk 39 (by omega), gk 40 (by omega)]
        refine ⟨h1.1, h1.2.1, fun _ => ⟨hL.1, hL.2.1, hL.2.2.1, hL.2.2.2.1, fun i hi => ⟨?_, ?_⟩⟩, h1.2.2.2⟩
        · refine (hL.2.2.2.2 i hi).1.ex ?_ ?_ ?_
          · rw [gk (128 + q) (by omega)]
          · rw [gk 48 (by omega)]
          · rw [gk 50 (by omega)]
        · by_cases ei : i = (σ 35 29).toInt.toNat
          · left
            subst ei
            have x1 : s2 51 (24 * (σ 35 29).toInt.toNat + q) = 1 := by rw [f]; (repeat (first | rw [up2_o (by omega)] | rw [up2_n (by omega)] | rw [up2_s]))
            have x2 : s2 49 (24 * (σ 35 29).toInt.toNat + q) = xa := by rw [f]; (repeat (first | rw [up2_o (by omega)] | rw [up2_n (by omega)] | rw [up2_s]))
            have x3 : s2 (152 + q) (σ 35 29).toInt.toNat = xa := by rw [f, e, hw]; (repeat (first | rw [up2_o (by omega)] | rw [up2_n (by omega)] | rw [up2_s]))
            rw [x1, x2, x3]
            exact ⟨by decide, rfl, by omega⟩
          · refine (hL.2.2.2.2 i hi).2.ex ?_ ?_ ?_
            · rw [f, e, hw]; (repeat (first | rw [up2_o (by omega)] | rw [up2_n (by omega)] | rw [up2_s]))
            · rw [f, e]; (repeat (first | rw [up2_o (by omega)] | rw [up2_n (by omega)] | rw [up2_s]))
            · rw [f, e]; (repeat (first | rw [up2_o (by omega)] | rw [up2_n (by omega)] | rw [up2_s]))
theorem cnt_eq {n : Nat} (hL : ∀ h, h < n → RD σ (128 + q) 48 50 q h ∧ RD σ (152 + q) 49 51 q h) : cntR σ q n = cntM σ q n := by
  induction n with
  | zero => rfl
  | succ n ih =>
    have h1 := hL n (by omega)
    have ih2 := ih (fun h hh => hL h (by omega))
    have e1 : (σ (128 + q) n).toInt = 1000000 ↔ (σ 50 (24 * n + q)).toInt = 0 := by
      rcases h1.1 with ⟨a, b, d⟩ | ⟨a, b⟩
      · rw [b]; omega
      · rw [a, b]; decide
    have e2 : (σ (152 + q) n).toInt = 1000000 ↔ (σ 51 (24 * n + q)).toInt = 0 := by
      rcases h1.2 with ⟨a, b, d⟩ | ⟨a, b⟩
      · rw [b]; omega
      · rw [a, b]; decide
    show (if _ then _ else _) = (if _ then _ else _)
    rw [ih2]
    by_cases g : (σ (128 + q) n).toInt = 1000000 ∧ (σ (152 + q) n).toInt = 1000000
    · rw [if_pos g, if_pos ⟨e1.mp g.1, e2.mp g.2⟩]
    · rw [if_neg g, if_neg (fun g2 => g ⟨e1.mpr g2.1, e2.mpr g2.2⟩)]
theorem rel_tear (h : Rel σ) (hq : pl.toInt.toNat = q) (w : po_X9_tear σ τ pl q v (s1, t1)) (w2 : po_X10_tear s1 t1 pl q v2 (s2, t2)) : Rel s2 ∧ v = v2 := by
  have kq := rel_kq h hq
  rcases w with ⟨e0, e, -, a1⟩ | ⟨e0, e, -, a1, a2, a3⟩ | ⟨e0, -, a1, a2, hT⟩
  · have e : s1 = σ := e
    subst e
    rcases w2 with ⟨f0, f, -, b1⟩ | ⟨f0, f, -, b1, b2, b3⟩ | ⟨f0, -, b1, b2, b3⟩
    · have f : s2 = s1 := f
      subst f
      exact ⟨h, e0.trans f0.symm⟩
    · exfalso; omega
    · exfalso; omega
  · have e : s1 = σ := e
    subst e
    rcases w2 with ⟨f0, f, -, b1⟩ | ⟨f0, f, -, b1, b2, b3⟩ | ⟨f0, -, b1, b2, b3⟩
    · exfalso; omega
    · have f : s2 = s1 := f
      subst f
      exact ⟨h, e0.trans f0.symm⟩
    · exfalso; omega
  · have hT : Torn σ s1 q := hT
    have hql : q < 24 := by omega
    have c36 : s1 36 = σ 36 := hT.1 36 (by omega)
    have kk := kq a1
    rcases w2 with ⟨f0, f, -, b1⟩ | ⟨f0, f, -, b1, b2, b3⟩ | ⟨f0, -, b1, b2, hN⟩
    · exfalso; rw [c36] at b1; omega
    · exfalso; rw [c36] at b3; omega
    · have hN : TornN s1 s2 q 201 := hN
      have h1 := h q hql
      have hL := h1.2.2.1 (by omega)
      have gk : ∀ k, k ≠ 50 → k ≠ 51 → k ≠ 128 + q → k ≠ 152 + q → s2 k = σ k := fun k g1 g2 g3 g4 => (hN.1 k (by omega)).trans (hT.1 k (by omega))
      refine ⟨Rel.at (q := q) h (fun j hj hne => ?_) (fun _ => ?_), ?_⟩
      · exact PlEq.tornN (PlEq.fr PlEq.rf hT.1 (fun k hk => by omega) hj) hN hj hql hne
      · unfold PR LR KR
        rw [gk 2 (by omega) (by omega) (by omega) (by omega), gk 36 (by omega) (by omega) (by omega) (by omega), gk (104 + q) (by omega) (by omega) (by omega) (by omega), gk 37 (by omega) (by omega) (by omega) (by omega), gk 38 (by omega) (by omega) (by omega) (by omega), gk 47 (by omega) (by omega) (by omega) (by omega), gk (80 + q) (by omega) (by omega) (by omega) (by omega), gk 42 (by omega) (by omega) (by omega) (by omega), gk 39 (by omega) (by omega) (by omega) (by omega), gk 40 (by omega) (by omega) (by omega) (by omega)]
        refine ⟨h1.1, h1.2.1, fun _ => ⟨hL.1, hL.2.1, hL.2.2.1, hL.2.2.2.1, fun i hi => ⟨Or.inr ⟨(hN.2.1 i hi).1, ?_⟩, Or.inr ⟨(hN.2.1 i hi).2, ?_⟩⟩⟩, h1.2.2.2⟩
        · rw [hN.1 (128 + q) (by omega)]; exact (hT.2 i hi).1
        · rw [hN.1 (152 + q) (by omega)]; exact (hT.2 i hi).2
      · have f0 : v2 = cntM s1 q 201 := f0
        have e0 : v = cntR σ q 201 := e0
        rw [e0, f0, cnt_eq hL.2.2.2.2]
        have gg : ∀ n, cntM σ q n = cntM s1 q n := fun n => by
          induction n with
          | zero => rfl
          | succ n ih =>
            show (if _ then _ else _) = (if _ then _ else _)
            rw [ih, hT.1 50 (by omega), hT.1 51 (by omega)]
        exact gg 201
theorem rel_way (h : Rel σ) (hq : pl.toInt.toNat = q) (w : po_X9_way σ τ pl q xa v (s1, t1)) (w2 : po_X10_way s1 t1 pl q xa v2 (s2, t2)) : Rel s2 ∧ v = v2 := by
  have kq := rel_kq h hq
  have kl : (0 ≤ pl.toInt ∧ pl.toInt < 24) → (4 ≤ (σ 36 q).toInt ∧ (σ 36 q).toInt ≤ 6) → (σ (104 + q) 0).toInt = (σ 36 q).toInt := fun a b => by rw [((h q (by omega)).2.2.1 b).1]
  rcases w with ⟨e0, e, -, a1⟩ | ⟨e0, e, -, a1, a2, a3⟩ | ⟨e0, e, -, a1, a2, a3, a4⟩
  · have e : s1 = σ := e
    subst e
    rcases w2 with ⟨f0, f, -, b1⟩ | ⟨f0, f, -, b1, b2, b3⟩ | ⟨f0, f, -, b1, b2, b3⟩
    · have f : s2 = s1 := f
      subst f
      exact ⟨h, e0.trans f0.symm⟩
    · exfalso
      rcases a1 with a1 | a1 | a1
      · exact a1 b1
      · have := kq b1; omega
      · have := kq b1; have := kl b1 (by omega); omega
    · exfalso
      rcases a1 with a1 | a1 | a1
      · exact a1 b1
      · have := kq b1; omega
      · omega
  · have e : s1 = σ := e
    subst e
    have kk := kq a1
    rcases w2 with ⟨f0, f, -, b1⟩ | ⟨f0, f, -, b1, b2, b3⟩ | ⟨f0, f, -, b1, b2, b3⟩
    · exfalso
      rcases b1 with b1 | b1 | b1
      · exact b1 a1
      · omega
      · have := kl a1 (by omega); exact a3 (by omega)
    · have f : s2 = s1 := f
      subst f
      exact ⟨h, e0.trans f0.symm⟩
    · exfalso
      have := kl a1 (by omega)
      exact a3 (by omega)
  · have e : s1 = _ := e
    have hql : q < 24 := by omega
    have c36 : s1 36 = σ 36 := by rw [e]; exact up2_ne (by omega)
    have kk := kq a1
    have k6 := kl a1 (by omega)
    rcases w2 with ⟨f0, f, -, b1⟩ | ⟨f0, f, -, b1, b2, b3⟩ | ⟨f0, f, -, b1, b2, b3⟩
    · exfalso; rw [c36] at b1; omega
    · exfalso; rw [c36] at b3; omega
    · have f : s2 = _ := f
      have h1 := h q hql
      have hL := h1.2.2.1 (by omega)
      refine ⟨Rel.at (q := q) h (fun j hj hne => ?_) (fun _ => ?_), e0.trans f0.symm⟩
      · rw [f, e]
        exact (PlEq.rf.up (by omega) (by omega) (by omega) (by omega) (by omega)).up (by omega) (by omega) (by omega) (by omega) (by omega)
      · have gk : ∀ k, k ≠ 47 → k ≠ 104 + q → s2 k = σ k := fun k g1 g2 => by rw [f, up2_ne (by omega), e, up2_ne (by omega)]
        have y0 : ∀ i, i ≠ 3 → s2 (104 + q) i = σ (104 + q) i := fun i hi => by rw [f, e]; (repeat (first | rw [up2_o (by omega)] | rw [up2_n (by omega)] | rw [up2_s]))
        have y3 : s2 (104 + q) 3 = xa := by rw [f, e]; (repeat (first | rw [up2_o (by omega)] | rw [up2_n (by omega)] | rw [up2_s]))
        have y4 : s2 47 q = xa := by rw [f]; exact up2_s
        unfold PR LR KR
        rw [gk 2 (by omega) (by omega), gk 36 (by omega) (by omega), y0 0 (by omega), y0 1 (by omega), y0 2 (by omega), y3, y4, gk 37 (by omega) (by omega), gk 38 (by omega) (by omega), gk (80 + q) (by omega) (by omega), gk 42 (by omega) (by omega), gk 39 (by omega) (by omega), gk 40 (by omega) (by omega)]
        refine ⟨h1.1, h1.2.1, fun _ => ⟨hL.1, hL.2.1, hL.2.2.1, rfl, fun i hi => ⟨(hL.2.2.2.2 i hi).1.ex ?_ ?_ ?_, (hL.2.2.2.2 i hi).2.ex ?_ ?_ ?_⟩⟩, h1.2.2.2⟩ <;> rw [gk _ (by omega) (by omega)]
theorem told_eq (h : Rel σ) (hn : 0 ≤ (σ 35 29).toInt ∧ (σ 35 29).toInt ≤ 200) (hh : hr.toInt.toNat = hq) {j : Nat} (hj : j < 24) (hk : 4 ≤ (σ 36 j).toInt ∧ (σ 36 j).toInt ≤ 6) (d1 : 0 ≤ hr.toInt) (d2 : hr.toInt ≤ (σ 35 29).toInt) : toldC σ j hr = toldM σ j hr hq := by
  have hL := (h j hj).2.2.1 hk
  have hR := hL.2.2.2.2 hq (by omega)
  have e1 : ((1000000 : Int32)).toInt = 1000000 := by decide
  have e0 : ((0 : Int32)).toInt = 0 := by decide
  unfold toldC toldM
  rw [if_neg (show ¬ (hr.toInt < 0 ∨ 201 ≤ hr.toInt) by omega), if_neg (show ¬ (hr.toInt < 0 ∨ (σ 35 29).toInt < hr.toInt) by omega), hh]
  rcases hR.1 with ⟨x1, x2, x3⟩ | ⟨x1, x2⟩
  · rw [x2, if_neg x3, if_neg x1, hL.1, hL.2.2.2.1]
    by_cases g5 : (σ 36 j).toInt = 5
    · rw [if_neg (show ¬ (σ 36 j).toInt = 4 by omega), if_pos g5]
      try rw [if_pos g5]
    · by_cases g6 : (σ 36 j).toInt = 6
      · rw [if_neg (show ¬ (σ 36 j).toInt = 4 by omega), if_neg g5, if_pos g6]
        try rw [if_neg g5]
        rcases hR.2 with ⟨y1, y2, y3⟩ | ⟨y1, y2⟩
        · rw [y2, if_neg y3, if_neg y1]
        · rw [y2, y1, if_pos e1, if_pos e0]
      · rw [if_pos (show (σ 36 j).toInt = 4 by omega), if_neg g5, if_neg g6]
  · rw [x2, x1, if_pos e1, if_pos e0]
theorem ag_tells (h : Rel σ) (hn : 0 ≤ (σ 35 29).toInt ∧ (σ 35 29).toInt ≤ 200) (hw : σ 0 8 = σ 35 29) (hpq : pl.toInt.toNat = q) (hh : hr.toInt.toNat = hq) (w : po_X9_tells σ τ pl q hr v (σ, τ)) (w2 : po_X10_tells σ τ pl q hr hq v2 (σ, τ)) : v = v2 := by
  have kq := rel_kq h hpq
  have hwt : (σ 0 8).toInt = (σ 35 29).toInt := by rw [hw]
  have hkey : (0 ≤ pl.toInt ∧ pl.toInt < 24) → (4 ≤ (σ 2 q).toInt ∧ (σ 2 q).toInt ≤ 6) → 0 ≤ hr.toInt → hr.toInt ≤ (σ 0 8).toInt → toldC σ q hr = toldM σ q hr hq := fun a b d1 d2 => told_eq h hn hh (by omega) (by have := kq a; omega) d1 (by omega)
  have hkey2 : ¬ (0 ≤ hr.toInt ∧ hr.toInt ≤ (σ 0 8).toInt) → toldM σ q hr hq = 1000000 := fun a => by
    unfold toldM
    rw [if_pos (by omega)]
  rcases w with ⟨-, ⟨e0, a1⟩ | ⟨e0, a1, a2, a3⟩ | ⟨e0, a1, a2, a3, a4⟩ | ⟨e0, a1, a2, a3⟩⟩ <;> rcases w2 with ⟨-, ⟨f0, b1⟩ | ⟨f0, b1, b2, b3⟩ | ⟨f0, b1, b2⟩⟩ <;>
  first
  | exact e0.trans f0.symm
  | (rw [e0, f0]; exact hkey a1 a2 a3 a4)
  | (rw [e0, f0]; exact (hkey2 a3).symm)
  | (exfalso; have := kq (by omega); omega)
theorem rel_take (h : Rel σ) (hq : pl.toInt.toNat = q) (w : po_X9_take σ τ pl q v (s1, t1)) (w2 : po_X10_take s1 t1 pl q v2 (s2, t2)) : Rel s2 ∧ v = v2 := by
  have kq := rel_kq h hq
  rcases w with ⟨e0, e, -, a1⟩ | ⟨e0, e, -, a1, a2, a3⟩ | ⟨e0, e, -, a1, a2⟩
  · have e : s1 = σ := e
    subst e
    rcases w2 with ⟨f0, f, -, b1⟩ | ⟨f0, f, -, b1, b2, b3⟩ | ⟨f0, f, -, b1, b2⟩
    · have f : s2 = s1 := f
      subst f
      exact ⟨h, e0.trans f0.symm⟩
    · exfalso; omega
    · exfalso; omega
  · have e : s1 = σ := e
    subst e
    rcases w2 with ⟨f0, f, -, b1⟩ | ⟨f0, f, -, b1, b2, b3⟩ | ⟨f0, f, -, b1, b2⟩
    · exfalso; omega
    · have f : s2 = s1 := f
      subst f
      exact ⟨h, e0.trans f0.symm⟩
    · exfalso; omega
  · have e : s1 = _ := e
    have hql : q < 24 := by omega
    have kk := kq a1
    have c36 : s1 36 = σ 36 := by rw [e, up2_ne (by omega), up2_ne (by omega), up2_ne (by omega), up2_ne (by omega)]
    rcases w2 with ⟨f0, f, -, b1⟩ | ⟨f0, f, -, b1, b2, b3⟩ | ⟨f0, f, -, b1, b2⟩
    · exfalso; rw [c36] at b1; omega
    · exfalso; rw [c36] at b3; omega
    · have f : s2 = _ := f
      have h1 := h q hql
      have hK := h1.2.2.2 (by omega)
      refine ⟨Rel.at (q := q) h (fun j hj hne => ?_) (fun _ => ?_), e0.trans f0.symm⟩
      · rw [f, e]
        exact ((((((((PlEq.rf).up (by omega) (by omega) (by omega) (by omega) (by omega)).up (by omega) (by omega) (by omega) (by omega) (by omega)).up (by omega) (by omega) (by omega) (by omega) (by omega)).up (by omega) (by omega) (by omega) (by omega) (by omega)).up (by omega) (by omega) (by omega) (by omega) (by omega)).up (by omega) (by omega) (by omega) (by omega) (by omega)).up (by omega) (by omega) (by omega) (by omega) (by omega)).up (by omega) (by omega) (by omega) (by omega) (by omega)
      · have g36 : s2 36 q = σ 36 q := by rw [f, e]; (repeat (first | rw [up2_o (by omega)] | rw [up2_n (by omega)] | rw [up2_s]))
        unfold PR KR
        rw [g36]
        refine ⟨?_, h1.2.1, fun hk => ?_, fun _ => ⟨?_, ?_, ?_, ?_⟩⟩
        · rw [← h1.1, f, e]; (repeat (first | rw [up2_o (by omega)] | rw [up2_n (by omega)] | rw [up2_s]))
        · exfalso; omega
        · rw [← hK.1, f, e]; (repeat (first | rw [up2_o (by omega)] | rw [up2_n (by omega)] | rw [up2_s]))
        · rw [f, e]; (repeat (first | rw [up2_o (by omega)] | rw [up2_n (by omega)] | rw [up2_s])); exact hK.2.1
        · rw [f, e]; (repeat (first | rw [up2_o (by omega)] | rw [up2_n (by omega)] | rw [up2_s]))
        · rw [f, e]; (repeat (first | rw [up2_o (by omega)] | rw [up2_n (by omega)] | rw [up2_s])); exact hK.2.2.2
theorem rel_leave (h : Rel σ) (hq : pl.toInt.toNat = q) (w : po_X9_leave σ τ pl q v (s1, t1)) (w2 : po_X10_leave s1 t1 pl q v2 (s2, t2)) : Rel s2 ∧ v = v2 := by
  have kq := rel_kq h hq
  have kr : (0 ≤ pl.toInt ∧ pl.toInt < 24) → (0 ≤ (σ 36 q).toInt ∧ (σ 36 q).toInt ≤ 3) → KR σ q := fun a b => (h q (by omega)).2.2.2 b
  have hfin : ∀ s : SI, q < 24 → (0 ≤ (σ 36 q).toInt ∧ (σ 36 q).toInt ≤ 3) → s = up2 (up2 σ (80 + q) 5 0) 39 q 0 → Rel s := fun s hql hk f => by
    have h1 := h q hql
    have hK := h1.2.2.2 hk
    refine Rel.at (q := q) h (fun j hj hne => ?_) (fun _ => ?_)
    · rw [f]
      exact (PlEq.rf.up (by omega) (by omega) (by omega) (by omega) (by omega)).up (by omega) (by omega) (by omega) (by omega) (by omega)
    · have g36 : s 36 q = σ 36 q := by rw [f]; (repeat (first | rw [up2_o (by omega)] | rw [up2_n (by omega)] | rw [up2_s]))
      unfold PR KR
      rw [g36]
      refine ⟨?_, h1.2.1, fun hk => ?_, fun _ => ⟨?_, ?_, ?_, ?_⟩⟩
      · rw [← h1.1, f]; (repeat (first | rw [up2_o (by omega)] | rw [up2_n (by omega)] | rw [up2_s]))
      · exfalso; omega
      · rw [← hK.1, f]; (repeat (first | rw [up2_o (by omega)] | rw [up2_n (by omega)] | rw [up2_s]))
      · rw [f]; (repeat (first | rw [up2_o (by omega)] | rw [up2_n (by omega)] | rw [up2_s])); exact hK.2.1
      · rw [f]; (repeat (first | rw [up2_o (by omega)] | rw [up2_n (by omega)] | rw [up2_s]))
      · rw [f]; (repeat (first | rw [up2_o (by omega)] | rw [up2_n (by omega)] | rw [up2_s])); exact hK.2.2.2
  rcases w with ⟨e0, e, -, a1⟩ | ⟨e0, e, -, a1, a2, a3⟩ | ⟨e0, e, -, a1, a2, a3⟩ | ⟨e0, e, -, a1, a2, a3⟩
  · have e : s1 = σ := e
    subst e
    rcases w2 with ⟨f0, f, -, b1⟩ | ⟨f0, f, -, b1, b2, b3⟩ | ⟨f0, f, -, b1, b2, b3⟩ | ⟨f0, f, -, b1, b2, b3⟩
    · have f : s2 = s1 := f
      subst f
      exact ⟨h, e0.trans f0.symm⟩
    all_goals exfalso; omega
  · have e : s1 = σ := e
    subst e
    rcases w2 with ⟨f0, f, -, b1⟩ | ⟨f0, f, -, b1, b2, b3⟩ | ⟨f0, f, -, b1, b2, b3⟩ | ⟨f0, f, -, b1, b2, b3⟩
    · exfalso; omega
    · have f : s2 = s1 := f
      subst f
      exact ⟨h, e0.trans f0.symm⟩
    all_goals exfalso; omega
  all_goals
    have e : s1 = _ := e
    have hql : q < 24 := by omega
    have kk := kq a1
    have hK := kr a1 (by omega)
    have c36 : s1 36 = σ 36 := by rw [e]; exact up2_ne (by omega)
    have c39 : s1 39 = σ 39 := by rw [e]; exact up2_ne (by omega)
    have k5 : (σ (80 + q) 5).toInt = (σ 39 q).toInt := by rw [hK.2.2.1]
    rcases w2 with ⟨f0, f, -, b1⟩ | ⟨f0, f, -, b1, b2, b3⟩ | ⟨f0, f, -, b1, b2, b3⟩ | ⟨f0, f, -, b1, b2, b3⟩
    · exfalso; rw [c36] at b1; omega
    · exfalso; rw [c36] at b3; omega
    all_goals
      rw [c39] at b3
      first
      | (exfalso; omega)
      | (have f : s2 = _ := f
         rw [e] at f
         exact ⟨hfin s2 hql (by omega) f, e0.trans f0.symm⟩)
theorem rel_call (h : Rel σ) (hq : pl.toInt.toNat = q) (w : po_X9_call σ τ pl q oa v (s1, t1)) (w2 : po_X10_call s1 t1 pl q oa v2 (s2, t2)) : Rel s2 ∧ v = v2 := by
  have kq := rel_kq h hq
  have kr : (0 ≤ pl.toInt ∧ pl.toInt < 24) → (0 ≤ (σ 36 q).toInt ∧ (σ 36 q).toInt ≤ 3) → (σ (80 + q) 1).toInt = (σ 36 q).toInt := fun a b => by rw [((h q (by omega)).2.2.2 b).1]
  rcases w with ⟨e0, e, -, a1⟩ | ⟨e0, e, -, a1, a2, a3⟩ | ⟨e0, e, -, a1, a2, a3⟩
  · have e : s1 = σ := e
    subst e
    rcases w2 with ⟨f0, f, -, b1⟩ | ⟨f0, f, -, b1, b2, b3⟩ | ⟨f0, f, -, b1, b2⟩
    · have f : s2 = s1 := f
      subst f
      exact ⟨h, e0.trans f0.symm⟩
    · exfalso; omega
    · exfalso; omega
  · have e : s1 = σ := e
    subst e
    have kk := kq a1
    rcases w2 with ⟨f0, f, -, b1⟩ | ⟨f0, f, -, b1, b2, b3⟩ | ⟨f0, f, -, b1, b2⟩
    · exfalso; omega
    · have f : s2 = s1 := f
      subst f
      exact ⟨h, e0.trans f0.symm⟩
    · exfalso
      have := kr a1 (by omega)
      exact a3 (by omega)
  · have e : s1 = _ := e
    have hql : q < 24 := by omega
    have kk := kq a1
    have k1 := kr a1 (by omega)
    have c36 : s1 36 = σ 36 := by rw [e]; exact up2_ne (by omega)
    rcases w2 with ⟨f0, f, -, b1⟩ | ⟨f0, f, -, b1, b2, b3⟩ | ⟨f0, f, -, b1, b2⟩
    · exfalso; rw [c36] at b1; omega
    · exfalso; rw [c36] at b3; omega
    · have f : s2 = _ := f
      have h1 := h q hql
      have hK := h1.2.2.2 (by omega)
      refine ⟨Rel.at (q := q) h (fun j hj hne => ?_) (fun _ => ?_), e0.trans f0.symm⟩
      · rw [f, e]
        exact (PlEq.rf.up (by omega) (by omega) (by omega) (by omega) (by omega)).up (by omega) (by omega) (by omega) (by omega) (by omega)
      · have g36 : s2 36 q = σ 36 q := by rw [f, e]; (repeat (first | rw [up2_o (by omega)] | rw [up2_n (by omega)] | rw [up2_s]))
        unfold PR KR
        rw [g36]
        refine ⟨?_, h1.2.1, fun hk => ?_, fun _ => ⟨?_, ?_, ?_, ?_⟩⟩
        · rw [← h1.1, f, e]; (repeat (first | rw [up2_o (by omega)] | rw [up2_n (by omega)] | rw [up2_s]))
        · exfalso; omega
        · rw [← hK.1, f, e]; (repeat (first | rw [up2_o (by omega)] | rw [up2_n (by omega)] | rw [up2_s]))
        · rw [f, e]; (repeat (first | rw [up2_o (by omega)] | rw [up2_n (by omega)] | rw [up2_s])); exact hK.2.1
        · rw [f, e]; (repeat (first | rw [up2_o (by omega)] | rw [up2_n (by omega)] | rw [up2_s])); exact hK.2.2.1
        · rw [f, e]; (repeat (first | rw [up2_o (by omega)] | rw [up2_n (by omega)] | rw [up2_s]))
theorem rel_steer (h : Rel σ) (hq : pl.toInt.toNat = q) (w : po_X9_steer σ τ pl q xa v (s1, t1)) (w2 : po_X10_steer s1 t1 pl q xa v2 (s2, t2)) : Rel s2 ∧ v = v2 := by
  have kq := rel_kq h hq
  have kr : (0 ≤ pl.toInt ∧ pl.toInt < 24) → (0 ≤ (σ 36 q).toInt ∧ (σ 36 q).toInt ≤ 3) → (σ (80 + q) 1).toInt = (σ 36 q).toInt ∧ (σ (80 + q) 4).toInt = (σ 42 q).toInt := fun a b => by
    have hK := (h q (by omega)).2.2.2 b
    rw [hK.1, hK.2.1]
    exact ⟨rfl, rfl⟩
  rcases w with ⟨e0, e, -, a1⟩ | ⟨e0, e, -, a1, a2, a3⟩ | ⟨e0, e, -, a1, a2, a3, a4⟩ | ⟨e0, e, -, a1, a2, a3, a4, a5⟩
  · have e : s1 = σ := e
    subst e
    rcases w2 with ⟨f0, f, -, b1⟩ | ⟨f0, f, -, b1, b2, b3⟩ | ⟨f0, f, -, b1, b2, b3⟩ | ⟨f0, f, -, b1, b2, b3, b4⟩
    · have f : s2 = s1 := f
      subst f
      exact ⟨h, e0.trans f0.symm⟩
    all_goals exfalso; omega
  · have e : s1 = σ := e
    subst e
    have kk := kq a1
    rcases w2 with ⟨f0, f, -, b1⟩ | ⟨f0, f, -, b1, b2, b3⟩ | ⟨f0, f, -, b1, b2, b3⟩ | ⟨f0, f, -, b1, b2, b3, b4⟩
    · exfalso; omega
    · have f : s2 = s1 := f
      subst f
      exact ⟨h, e0.trans f0.symm⟩
    · exfalso
      have := kr a1 (by omega)
      exact a3 (by omega)
    · exfalso
      have := kr a1 (by omega)
      exact a3 (by omega)
  · have e : s1 = σ := e
    subst e
    have kk := kq a1
    have k1 := kr a1 (by omega)
    rcases w2 with ⟨f0, f, -, b1⟩ | ⟨f0, f, -, b1, b2, b3⟩ | ⟨f0, f, -, b1, b2, b3⟩ | ⟨f0, f, -, b1, b2, b3, b4⟩
    · exfalso; omega
    · exfalso; exact b3 (by omega)
    · have f : s2 = s1 := f
      subst f
      exact ⟨h, e0.trans f0.symm⟩
    · exfalso; exact a4 (by omega)
  · have e : s1 = _ := e
    have hql : q < 24 := by omega
    have kk := kq a1
    have k1 := kr a1 (by omega)
    have c36 : s1 36 = σ 36 := by rw [e]; exact up2_ne (by omega)
    have c42 : s1 42 = σ 42 := by rw [e]; exact up2_ne (by omega)
    rcases w2 with ⟨f0, f, -, b1⟩ | ⟨f0, f, -, b1, b2, b3⟩ | ⟨f0, f, -, b1, b2, b3⟩ | ⟨f0, f, -, b1, b2, b3, b4⟩
    · exfalso; rw [c36] at b1; omega
    · exfalso; rw [c36] at b3; exact b3 (by omega)
    · exfalso; rw [c42] at b3; exact b3 (by omega)
    · have f : s2 = _ := f
      have f0 : v2 = s1 42 q + xa := f0
      have h1 := h q hql
      have hK := h1.2.2.2 (by omega)
      rw [c42] at f f0
      refine ⟨Rel.at (q := q) h (fun j hj hne => ?_) (fun _ => ?_), ?_⟩
      · rw [f, e]
        exact (PlEq.rf.up (by omega) (by omega) (by omega) (by omega) (by omega)).up (by omega) (by omega) (by omega) (by omega) (by omega)
      · have g36 : s2 36 q = σ 36 q := by rw [f, e]; (repeat (first | rw [up2_o (by omega)] | rw [up2_n (by omega)] | rw [up2_s]))
        unfold PR KR
        rw [g36]
        refine ⟨?_, h1.2.1, fun hk => ?_, fun _ => ⟨?_, ?_, ?_, ?_⟩⟩
        · rw [← h1.1, f, e]; (repeat (first | rw [up2_o (by omega)] | rw [up2_n (by omega)] | rw [up2_s]))
        · exfalso; omega
        · rw [← hK.1, f, e]; (repeat (first | rw [up2_o (by omega)] | rw [up2_n (by omega)] | rw [up2_s]))
        · rw [f, e]; (repeat (first | rw [up2_o (by omega)] | rw [up2_n (by omega)] | rw [up2_s])); rw [hK.2.1]
        · rw [f, e]; (repeat (first | rw [up2_o (by omega)] | rw [up2_n (by omega)] | rw [up2_s])); exact hK.2.2.1
        · rw [f, e]; (repeat (first | rw [up2_o (by omega)] | rw [up2_n (by omega)] | rw [up2_s])); exact hK.2.2.2
      · rw [e0, f0, hK.2.1]
theorem rel_difference (h : Rel σ) (w : po_X9_difference σ τ xa xq ya yq hr v (s1, t1)) (w2 : po_X10_difference s1 t1 xa xq ya yq hr hq v2 (s2, t2)) : Rel s2 :=
  h.ex (fun j hj => (PlEq.fr PlEq.rf w (fun k hk => by omega) hj).mr w2 (fun k hk => by omega) hj)
theorem rel_along (h : Rel σ) (w : po_X9_along σ τ xa xq ya yq hr v (s1, t1)) (w2 : po_X10_along s1 t1 xa xq ya yq hr hq v2 (s2, t2)) : Rel s2 :=
  h.ex (fun j hj => (PlEq.fr PlEq.rf w.1 (fun k hk => by omega) hj).mr w2.1 (fun k hk => by omega) hj)
theorem rel_F (h : Rel σ) (w : Fr (fun k => 18 ≤ k ∧ k ≤ 20) σ s1) (w2 : MRel (fun _ => False) (fun j => j = 44) s1 s2) : Rel s2 :=
  h.ex (fun j hj => (PlEq.fr PlEq.rf w (fun k hk => by omega) hj).mr w2 (fun k hk => hk.elim) hj)
theorem PlEq.u0 {s : SI} {j i : Nat} {x : Int32} (h : PlEq σ s j) (hj : j < 24) : PlEq σ (up2 s 0 i x) j := h.up (by omega) (by omega) (by omega) (by omega) (by omega)
theorem PlEq.u35 {s : SI} {j i : Nat} {x : Int32} (h : PlEq σ s j) (hj : j < 24) : PlEq σ (up2 s 35 i x) j := h.up (by omega) (by omega) (by omega) (by omega) (by omega)
theorem rel_set (h : Rel σ) (w : po_X9_set σ τ wa xa v (s1, t1)) (w2 : po_X10_set s1 t1 wa xa v2 (s2, t2)) : Rel s2 := by
  refine h.ex (fun j hj => ?_)
  have h1 : PlEq σ s1 j := by
    rcases w with ⟨-, e, -⟩ | ⟨-, e, -⟩ | ⟨-, e, -⟩ | ⟨-, e, -⟩
    all_goals
      have e : s1 = _ := e
      rw [e]
      first | exact PlEq.rf.u0 hj | exact PlEq.rf
  rcases w2 with ⟨-, e, -⟩ | ⟨-, e, -⟩ | ⟨-, e, -⟩ | ⟨-, e, -⟩
  all_goals
    have e : s2 = _ := e
    rw [e]
    first | exact h1.u35 hj | exact h1
theorem rel_show (h : Rel σ) (w : po_X9_show σ τ xa v (s1, t1)) (w2 : po_X10_show s1 t1 xa v2 (s2, t2)) : Rel s2 := by
  refine h.ex (fun j hj => ?_)
  have h1 : PlEq σ s1 j := by
    rcases w with ⟨-, e, -⟩ | ⟨-, e, -⟩
    all_goals
      have e : s1 = _ := e
      rw [e]
      first | exact PlEq.rf.u0 hj | exact PlEq.rf
  rcases w2 with ⟨-, e, -⟩ | ⟨-, e, -⟩
  all_goals
    have e : s2 = _ := e
    rw [e]
    first | exact h1.u35 hj | exact h1
theorem rel_close (h : Rel σ) (w : po_X9_close σ τ v (s1, t1)) (w2 : po_X10_close s1 t1 v2 (s2, t2)) : Rel s2 := by
  refine h.ex (fun j hj => ?_)
  have h1 : PlEq σ s1 j := by
    rcases w with ⟨-, e, -⟩ | ⟨-, e, -⟩
    · have e : s1 = σ := e
      rw [e]
      exact PlEq.rf
    · have e : ClC σ s1 := e
      exact ⟨fun k hk => by rw [e.1 k (by omega)], fun i hi => by rw [e.1 (104 + j) (by omega)], fun i => ⟨by rw [e.1 (128 + j) (by omega)], by rw [e.1 (152 + j) (by omega)]⟩, fun k i a b d => by rw [e.1 k (by omega)], fun i hi => e.2.1 j i hj (by omega)⟩
  rcases w2 with ⟨-, -, -, e⟩ | ⟨e, -⟩
  · have e : s2 = s1 := e
    rw [e]
    exact h1
  · have e : MRel _ _ s1 s2 := e
    exact h1.mr e (fun k hk => by first | omega | (dsimp only at hk; omega)) hj
end RELK
