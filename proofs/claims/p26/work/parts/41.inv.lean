/-! ===== what holds between the calls ===== -/
theorem u4 {α : Type} {σ : Nat → Nat → α} {k j : Nat} {x : α} {k' i : Nat} (h : i ≠ j) : up2 σ k j x k' i = σ k' i := by
  by_cases e : k' = k
  · subst e; exact up2_n h
  · exact up2_o e
def IM (σ : SI) : Prop := (0 ≤ (σ 35 29).toInt ∧ (σ 35 29).toInt ≤ 200) ∧ LnM σ ∧ ClM σ ∧ (∀ j, j < 24 → -100000 ≤ (σ 42 j).toInt ∧ (σ 42 j).toInt ≤ 100000) ∧ KM σ ∧ (0 ≤ (σ 35 42).toInt ∧ (σ 35 42).toInt ≤ 24) ∧ (-1000000 ≤ (σ 35 33).toInt ∧ (σ 35 33).toInt ≤ 1000000) ∧ (0 ≤ (σ 35 32).toInt ∧ (σ 35 32).toInt ≤ 3599)
def IC (σ : SI) : Prop := ∀ j, j < 24 → -100000 ≤ (σ (80 + j) 4).toInt ∧ (σ (80 + j) 4).toInt ≤ 100000
def RLq (σ : SI) : Prop := σ 0 8 = σ 35 29 ∧ σ 0 11 = σ 35 32 ∧ σ 0 12 = σ 35 33
def Inv (σ : SI) : Prop := IM σ ∧ IC σ ∧ RLq σ
def Cfr (σ s : SI) : Prop := ∀ k, 35 ≤ k → k < 80 → s k = σ k
def Mfr (σ s : SI) : Prop := ∀ k, (k < 35 ∨ 80 ≤ k) → s k = σ k
def Csc (σ s : SI) : Prop := ∀ j, 8 ≤ j → s 0 j = σ 0 j
def Msc (σ s : SI) : Prop := ∀ j, 29 ≤ j → j ≤ 33 → s 35 j = σ 35 j
theorem IM.ex {σ s : SI} (h : IM σ) (e35 : s 35 = σ 35) (e36 : s 36 = σ 36) (e37 : s 37 = σ 37) (e38 : s 38 = σ 38) (e42 : s 42 = σ 42) (e44 : s 44 = σ 44) (e56 : s 56 = σ 56) (e71 : s 71 = σ 71) : IM s := by
  unfold IM LnM ClM KM
  rw [e35, e36, e37, e38, e42, e44, e56, e71]
  exact h
theorem IM.fr {σ s : SI} (h : IM σ) (f : Cfr σ s) : IM s := h.ex (f 35 (by decide) (by decide)) (f 36 (by decide) (by decide)) (f 37 (by decide) (by decide)) (f 38 (by decide) (by decide)) (f 42 (by decide) (by decide)) (f 44 (by decide) (by decide)) (f 56 (by decide) (by decide)) (f 71 (by decide) (by decide))
theorem IM.up {σ : SI} {k j : Nat} {x : Int32} (h : IM σ) (hk : k ≠ 35 ∧ k ≠ 36 ∧ k ≠ 37 ∧ k ≠ 38 ∧ k ≠ 42 ∧ k ≠ 44 ∧ k ≠ 56 ∧ k ≠ 71) : IM (up2 σ k j x) :=
  h.ex (up2_ne (by omega)) (up2_ne (by omega)) (up2_ne (by omega)) (up2_ne (by omega)) (up2_ne (by omega)) (up2_ne (by omega)) (up2_ne (by omega)) (up2_ne (by omega))
theorem LnM.ex {σ s : SI} (h : LnM σ) (e36 : s 36 = σ 36) (e37 : s 37 = σ 37) (e38 : s 38 = σ 38) : LnM s := by
  unfold LnM
  rw [e36, e37, e38]
  exact h
theorem ClM.ex {σ s : SI} (h : ClM σ) (e36 : s 36 = σ 36) (e37 : s 37 = σ 37) : ClM s := by
  unfold ClM
  rw [e36, e37]
  exact h
theorem IM.u44 {σ : SI} {j : Nat} {x : Int32} (h : IM σ) (hx : x.toInt = -9 ∨ 0 ≤ x.toInt) : IM (up2 σ 44 j x) := by
  obtain ⟨h1, h2, h3, h4, h5, h6, h7, h8⟩ := h
  refine ⟨?_, h2.ex (up2_ne (by omega)) (up2_ne (by omega)) (up2_ne (by omega)), h3.ex (up2_ne (by omega)) (up2_ne (by omega)), ?_, h5.u44 hx, ?_, ?_, ?_⟩ <;> rw [up2_ne (by omega)] <;> assumption
theorem IM.u42 {σ : SI} {j : Nat} {x : Int32} (h : IM σ) (hx : -100000 ≤ x.toInt ∧ x.toInt ≤ 100000) : IM (up2 σ 42 j x) := by
  obtain ⟨h1, h2, h3, h4, h5, h6, h7, h8⟩ := h
  refine ⟨?_, h2.ex (up2_ne (by omega)) (up2_ne (by omega)) (up2_ne (by omega)), h3.ex (up2_ne (by omega)) (up2_ne (by omega)), fun i hi => up2_c (P := fun y => -100000 ≤ y.toInt ∧ y.toInt ≤ 100000) (h4 i hi) (fun _ => hx), h5.up (by omega), ?_, ?_, ?_⟩ <;> rw [up2_ne (by omega)] <;> assumption
theorem IM.u35 {σ : SI} {j : Nat} {x : Int32} (h : IM σ) (hj : j ≠ 29 ∧ j ≠ 37 ∧ j ≠ 42) (hx : j = 33 → -1000000 ≤ x.toInt ∧ x.toInt ≤ 1000000) (hy : j = 32 → 0 ≤ x.toInt ∧ x.toInt ≤ 3599) : IM (up2 σ 35 j x) := by
  obtain ⟨h1, h2, h3, h4, h5, h6, h7, h8⟩ := h
  refine ⟨?_, h2.ex (up2_ne (by omega)) (up2_ne (by omega)) (up2_ne (by omega)), h3.ex (up2_ne (by omega)) (up2_ne (by omega)), ?_, h5.u35 (by omega), ?_, ?_, ?_⟩
  · rw [up2_n (by omega)]; exact h1
  · rw [up2_ne (by omega)]; exact h4
  · rw [up2_n (by omega)]; exact h6
  · by_cases e : j = 33
    · subst e; rw [up2_s]; exact hx rfl
    · rw [up2_n (by omega)]; exact h7
  · by_cases e : j = 32
    · subst e; rw [up2_s]; exact hy rfl
    · rw [up2_n (by omega)]; exact h8
theorem IM.u36 {σ : SI} {q : Nat} (h : IM σ) : IM (up2 σ 36 q (-1)) := by
  obtain ⟨h1, h2, h3, h4, h5, h6, h7, h8⟩ := h
  refine ⟨?_, fun j hj hk => ?_, fun j hj hk => ?_, ?_, h5.up (by omega), ?_, ?_, ?_⟩
  · rw [up2_ne (by omega)]; exact h1
  · rw [up2_ne (show (37 : Nat) ≠ 36 by decide), up2_ne (show (38 : Nat) ≠ 36 by decide)]
    by_cases e : j = q
    · subst e
      rw [up2_s] at hk
      exact absurd hk (by decide)
    · rw [up2_n e] at hk
      exact h2 j hj hk
  · rw [up2_ne (show (37 : Nat) ≠ 36 by decide)]
    by_cases e : j = q
    · subst e
      rw [up2_s] at hk
      exact absurd hk (by decide)
    · rw [up2_n e] at hk
      exact h3 j hj hk
  · rw [up2_ne (by omega)]; exact h4
  · rw [up2_ne (by omega)]; exact h6
  · rw [up2_ne (by omega)]; exact h7
  · rw [up2_ne (by omega)]; exact h8
theorem IM.mr {S J : Nat → Prop} {σ s : SI} (h : IM σ) (r : MRel S J σ s) (n36 : ¬ S 36) (n37 : ¬ S 37) (n38 : ¬ S 38) (n42 : ¬ S 42) (n44 : ¬ S 44) (n56 : ¬ S 56) (n71 : ¬ S 71) (j29 : ¬ J 29) (j32 : ¬ J 32) (j33 : ¬ J 33) (j37 : ¬ J 37) (hg : 0 ≤ (s 35 42).toInt ∧ (s 35 42).toInt ≤ 24) : IM s := by
  obtain ⟨h1, h2, h3, h4, h5, h6, h7, h8⟩ := h
  refine ⟨?_, h2.ex (r.1 36 (by decide) n36) (r.1 37 (by decide) n37) (r.1 38 (by decide) n38), h3.ex (r.1 36 (by decide) n36) (r.1 37 (by decide) n37), ?_, h5.fr r n56 n44 n71 j37, hg, ?_, ?_⟩
  · rw [r.2 29 j29]; exact h1
  · rw [r.1 42 (by decide) n42]; exact h4
  · rw [r.2 33 j33]; exact h7
  · rw [r.2 32 j32]; exact h8
theorem Mfr.mr {S J : Nat → Prop} {σ s : SI} (r : MRel S J σ s) (hS : ∀ k, S k → 35 ≤ k ∧ k < 80) : Mfr σ s := fun k hk => r.1 k (by omega) (fun q => by have := hS k q; omega)
theorem Msc.mr {S J : Nat → Prop} {σ s : SI} (r : MRel S J σ s) (hJ : ∀ j, J j → j < 29 ∨ 33 < j) : Msc σ s := fun j h1 h2 => r.2 j (fun q => by have := hJ j q; omega)
/-- one call of each side -/
theorem Inv.nx {σ s1 s2 : SI} (h : Inv σ) (hc : Cfr σ s1) (hic : IC s1) (hcs : Csc σ s1) (hm : Mfr s1 s2) (him : IM s2) (hms : Msc s1 s2) : Inv s2 := by
  refine ⟨him, fun j hj => ?_, ?_, ?_, ?_⟩
  · rw [hm (80 + j) (by omega)]; exact hic j hj
  · rw [hm 0 (by omega), hcs 8 (by omega), hms 29 (by omega) (by omega), hc 35 (by omega) (by omega)]; exact h.2.2.1
  · rw [hm 0 (by omega), hcs 11 (by omega), hms 32 (by omega) (by omega), hc 35 (by omega) (by omega)]; exact h.2.2.2.1
  · rw [hm 0 (by omega), hcs 12 (by omega), hms 33 (by omega) (by omega), hc 35 (by omega) (by omega)]; exact h.2.2.2.2
/-- what a call of the class leaves -/
def CN (σ s : SI) : Prop := Cfr σ s ∧ IC s ∧ Csc σ s
def MN (σ s : SI) : Prop := Mfr σ s ∧ IM s ∧ Msc σ s
theorem Inv.go {σ s1 s2 : SI} (h : Inv σ) (hc : CN σ s1) (hm : MN s1 s2) : Inv s2 := h.nx hc.1 hc.2.1 hc.2.2 hm.1 hm.2.1 hm.2.2
theorem CN.rf {σ s : SI} (h : IC σ) (e : s = σ) : CN σ s := by
  subst e
  exact ⟨fun _ _ _ => rfl, h, fun _ _ => rfl⟩
theorem MN.rf {σ s : SI} (h : IM σ) (e : s = σ) : MN σ s := by
  subst e
  exact ⟨fun _ _ => rfl, h, fun _ _ _ => rfl⟩
theorem CN.up {σ s : SI} {k j : Nat} {x : Int32} (h : CN σ s) (hk : (1 ≤ k ∧ k < 35) ∨ (80 ≤ k ∧ k < 104 ∧ j ≠ 4) ∨ 104 ≤ k) : CN σ (up2 s k j x) :=
  ⟨fun k' h1 h2 => (up2_ne (by omega)).trans (h.1 k' h1 h2), fun i hi => by
    by_cases e : 80 + i = k
    · rw [u4 (show 4 ≠ j by omega)]; exact h.2.1 i hi
    · rw [up2_o e]; exact h.2.1 i hi, fun i hi => (up2_o (by omega)).trans (h.2.2 i hi)⟩
theorem CN.up4 {σ s : SI} {k : Nat} {x : Int32} (h : CN σ s) (hk : 80 ≤ k) (hx : -100000 ≤ x.toInt ∧ x.toInt ≤ 100000) : CN σ (up2 s k 4 x) :=
  ⟨fun k' h1 h2 => (up2_ne (by omega)).trans (h.1 k' h1 h2), fun i hi => up2_c (P := fun y => -100000 ≤ y.toInt ∧ y.toInt ≤ 100000) (h.2.1 i hi) (fun _ => hx), fun i hi => (up2_o (by omega)).trans (h.2.2 i hi)⟩
theorem CN.fr {S : Nat → Prop} {σ s s1 : SI} (h : CN σ s) (r : Fr S s s1) (hS : ∀ k, S k → (1 ≤ k ∧ k < 35) ∨ 104 ≤ k) : CN σ s1 :=
  ⟨fun k h1 h2 => (r k (fun q => by have := hS k q; omega)).trans (h.1 k h1 h2), fun i hi => by rw [r (80 + i) (fun q => by have := hS _ q; omega)]; exact h.2.1 i hi, fun i hi => by rw [r 0 (fun q => by have := hS _ q; omega)]; exact h.2.2 i hi⟩
theorem CN.al {σ s : SI} (h : IC σ) (r : AL σ s) : CN σ s :=
  ⟨fun k h1 h2 => r.1 k (by omega), fun i hi => by rw [r.1 (80 + i) (by omega)]; exact h i hi, fun i hi => r.2 i (by omega)⟩
theorem MN.up {σ s : SI} {k j : Nat} {x : Int32} (h : MN σ s) (hk : 36 ≤ k ∧ k < 80) (hi : IM s → IM (up2 s k j x)) : MN σ (up2 s k j x) :=
  ⟨fun k' h1 => (up2_ne (by omega)).trans (h.1 k' h1), hi h.2.1, fun i h1 h2 => (up2_o (by omega)).trans (h.2.2 i h1 h2)⟩
theorem MN.fr {S : Nat → Prop} {σ s s1 : SI} (h : MN σ s) (r : Fr S s s1) (hS : ∀ k, S k → k = 50 ∨ k = 51) : MN σ s1 :=
  ⟨fun k h1 => (r k (fun q => by have := hS k q; omega)).trans (h.1 k h1), h.2.1.ex (r 35 (fun q => by have := hS _ q; omega)) (r 36 (fun q => by have := hS _ q; omega)) (r 37 (fun q => by have := hS _ q; omega)) (r 38 (fun q => by have := hS _ q; omega)) (r 42 (fun q => by have := hS _ q; omega)) (r 44 (fun q => by have := hS _ q; omega)) (r 56 (fun q => by have := hS _ q; omega)) (r 71 (fun q => by have := hS _ q; omega)),
    fun i h1 h2 => by rw [r 35 (fun q => by have := hS _ q; omega)]; exact h.2.2 i h1 h2⟩
theorem MN.mr {S J : Nat → Prop} {σ s : SI} (h : IM σ) (r : MRel S J σ s) (hS : ∀ k, S k → 68 ≤ k ∧ k ≤ 70) (hJ : ∀ j, J j → 41 ≤ j ∧ j ≤ 44) (hg : 0 ≤ (s 35 42).toInt ∧ (s 35 42).toInt ≤ 24) : MN σ s :=
  ⟨Mfr.mr r (fun k q => by have := hS k q; omega), h.mr r (fun q => by have := hS _ q; omega) (fun q => by have := hS _ q; omega) (fun q => by have := hS _ q; omega) (fun q => by have := hS _ q; omega) (fun q => by have := hS _ q; omega) (fun q => by have := hS _ q; omega) (fun q => by have := hS _ q; omega) (fun q => by have := hJ _ q; omega) (fun q => by have := hJ _ q; omega) (fun q => by have := hJ _ q; omega) (fun q => by have := hJ _ q; omega) hg, Msc.mr r (fun j q => by have := hJ j q; omega)⟩
/-- what is put at a place -/
theorem IM.pt {σ : SI} {q fq sq : Nat} {ka fa sa : Int32} (h : IM σ) (hfq : fa.toInt.toNat = fq) (hsq : sa.toInt.toNat = sq)
    (hk : (0 ≤ ka.toInt ∧ ka.toInt ≤ 3 ∧ 2 ≤ fa.toInt ∧ fa.toInt ≤ 12) ∨ (4 ≤ ka.toInt ∧ ka.toInt ≤ 6 ∧ 0 ≤ fa.toInt ∧ fa.toInt < 24 ∧ 0 ≤ sa.toInt ∧ sa.toInt < 24) ∨ ka.toInt = 7) : IM (up2 (up2 (up2 σ 36 q ka) 37 q fa) 38 q sa) := by
  obtain ⟨h1, h2, h3, h4, h5, h6, h7, h8⟩ := h
  refine ⟨?_, fun j hj hj2 => ?_, fun j hj hj2 => ?_, ?_, ((h5.up (by omega)).up (by omega)).up (by omega), ?_, ?_, ?_⟩
  · rw [up2_ne (by omega), up2_ne (by omega), up2_ne (by omega)]; exact h1
  · by_cases e : j = q
    · subst e
      rw [up2_o (show (36 : Nat) ≠ 38 by decide), up2_o (show (36 : Nat) ≠ 37 by decide), up2_s] at hj2
      rw [up2_o (show (37 : Nat) ≠ 38 by decide), up2_s, up2_s]
      omega
    · rw [up2_o (show (36 : Nat) ≠ 38 by decide), up2_o (show (36 : Nat) ≠ 37 by decide), up2_n e] at hj2
      rw [up2_o (show (37 : Nat) ≠ 38 by decide), up2_n e, up2_o (show (37 : Nat) ≠ 36 by decide), up2_n e, up2_o (show (38 : Nat) ≠ 37 by decide), up2_o (show (38 : Nat) ≠ 36 by decide)]
      exact h2 j hj hj2
  · by_cases e : j = q
    · subst e
      rw [up2_o (show (36 : Nat) ≠ 38 by decide), up2_o (show (36 : Nat) ≠ 37 by decide), up2_s] at hj2
      rw [up2_o (show (37 : Nat) ≠ 38 by decide), up2_s]
      omega
    · rw [up2_o (show (36 : Nat) ≠ 38 by decide), up2_o (show (36 : Nat) ≠ 37 by decide), up2_n e] at hj2
      rw [up2_o (show (37 : Nat) ≠ 38 by decide), up2_n e, up2_o (show (37 : Nat) ≠ 36 by decide)]
      exact h3 j hj hj2
  · rw [up2_ne (by omega), up2_ne (by omega), up2_ne (by omega)]; exact h4
  · rw [up2_ne (by omega), up2_ne (by omega), up2_ne (by omega)]; exact h6
  · rw [up2_ne (by omega), up2_ne (by omega), up2_ne (by omega)]; exact h7
  · rw [up2_ne (by omega), up2_ne (by omega), up2_ne (by omega)]; exact h8
section CNK
variable {σ : SI} {τ : SL} {v : Int32} {s : SI} {t : SL} {pl ka fa sa xa ya wa hr oa : Int32} {q fq sq xq yq hq : Nat}
theorem cn_put (h : IC σ) (hq : pl.toInt.toNat = q) (w : po_X9_put σ τ pl q ka fa fq sa sq v (s, t)) : CN σ s := by
  rcases w with ⟨-, e, -⟩ | ⟨-, e, -, hp, -⟩ | ⟨-, -, hp, hT⟩ | ⟨-, e, -, hp, -⟩
  · exact .rf h e
  · have hql : q < 24 := by omega
    have e2 : s = _ := e
    rw [e2]
    exact ((((((((((((CN.rf h rfl).up (by omega)).up (by omega)).up (by omega)).up (by omega)).up4 (by omega) (by decide)).up (by omega)).up (by omega)).up (by omega)).up (by omega)).up (by omega)).up (by omega)).up (by omega)
  · have hql : q < 24 := by have := hp.1; omega
    exact CN.fr (((((((CN.rf h rfl).up (by omega)).up (by omega)).up (by omega)).up (by omega)).up (by omega))) hT.1 (fun k hk => by omega)
  · have e2 : s = _ := e
    rw [e2]
    exact (CN.rf h rfl).up (by omega)
theorem cn_lift (h : IC σ) (w : po_X9_lift σ τ pl q v (s, t)) : CN σ s := by
  rcases w with ⟨-, e, -⟩ | ⟨-, e, -⟩ | ⟨-, e, -⟩
  · exact .rf h e
  · have e2 : s = _ := e
    rw [e2]
    exact (CN.rf h rfl).up (by omega)
  · exact .rf h e
theorem cn_read (h : IC σ) (w : po_X9_read σ τ pl q xa v (s, t)) : CN σ s := by
  rcases w with ⟨-, e, -⟩ | ⟨-, e, -⟩ | ⟨-, e, -⟩
  · exact .rf h e
  · exact .rf h e
  · have e2 : s = _ := e
    rw [e2]
    exact (CN.rf h rfl).up (by omega)
theorem cn_back (h : IC σ) (w : po_X9_back σ τ pl q xa v (s, t)) : CN σ s := by
  rcases w with ⟨-, e, -⟩ | ⟨-, e, -⟩ | ⟨-, e, -⟩
  · exact .rf h e
  · exact .rf h e
  · have e2 : s = _ := e
    rw [e2]
    exact (CN.rf h rfl).up (by omega)
theorem cn_tear (h : IC σ) (w : po_X9_tear σ τ pl q v (s, t)) : CN σ s := by
  rcases w with ⟨-, e, -⟩ | ⟨-, e, -⟩ | ⟨-, -, -, -, hT⟩
  · exact .rf h e
  · exact .rf h e
  · exact CN.fr (CN.rf h rfl) hT.1 (fun k hk => by omega)
theorem cn_way (h : IC σ) (w : po_X9_way σ τ pl q xa v (s, t)) : CN σ s := by
  rcases w with ⟨-, e, -⟩ | ⟨-, e, -⟩ | ⟨-, e, -⟩
  · exact .rf h e
  · exact .rf h e
  · have e2 : s = _ := e
    rw [e2]
    exact (CN.rf h rfl).up (by omega)
theorem cn_difference (h : IC σ) (w : po_X9_difference σ τ xa xq ya yq hr v (s, t)) : CN σ s := CN.fr (CN.rf h rfl) w (fun k hk => by omega)
theorem cn_along (h : IC σ) (w : po_X9_along σ τ xa xq ya yq hr v (s, t)) : CN σ s := CN.al h w
theorem cn_take (h : IC σ) (hq : pl.toInt.toNat = q) (w : po_X9_take σ τ pl q v (s, t)) : CN σ s := by
  rcases w with ⟨-, e, -⟩ | ⟨-, e, -⟩ | ⟨-, e, -, hp, -⟩
  · exact .rf h e
  · exact .rf h e
  · have hql : q < 24 := by omega
    have e2 : s = _ := e
    rw [e2]
    exact ((((CN.rf h rfl).up (by omega)).up (by omega)).up (by omega)).up (by omega)
theorem cn_leave (h : IC σ) (hq : pl.toInt.toNat = q) (w : po_X9_leave σ τ pl q v (s, t)) : CN σ s := by
  rcases w with ⟨-, e, -⟩ | ⟨-, e, -⟩ | ⟨-, e, -, hp, -⟩ | ⟨-, e, -, hp, -⟩
  · exact .rf h e
  · exact .rf h e
  · have hql : q < 24 := by omega
    have e2 : s = _ := e
    rw [e2]
    exact (CN.rf h rfl).up (by omega)
  · have hql : q < 24 := by omega
    have e2 : s = _ := e
    rw [e2]
    exact (CN.rf h rfl).up (by omega)
theorem cn_call (h : IC σ) (hq : pl.toInt.toNat = q) (w : po_X9_call σ τ pl q oa v (s, t)) : CN σ s := by
  rcases w with ⟨-, e, -⟩ | ⟨-, e, -⟩ | ⟨-, e, -, hp, -⟩
  · exact .rf h e
  · exact .rf h e
  · have hql : q < 24 := by omega
    have e2 : s = _ := e
    rw [e2]
    exact (CN.rf h rfl).up (by omega)
theorem cn_steer (h : IC σ) (hq : pl.toInt.toNat = q) (w : po_X9_steer σ τ pl q xa v (s, t)) : CN σ s := by
  rcases w with ⟨-, e, -⟩ | ⟨-, e, -⟩ | ⟨-, e, -⟩ | ⟨-, e, -, hp, -, -, hx, hb⟩
  · exact .rf h e
  · exact .rf h e
  · exact .rf h e
  · have hql : q < 24 := by omega
    have e2 : s = _ := e
    rw [e2]
    have e3 : ((σ (80 + q) 4) + xa).toInt = (σ (80 + q) 4).toInt + xa.toInt := addI rfl rfl (by omega) (by omega)
    exact (CN.rf h rfl).up4 (by omega) (by rw [e3]; exact hb)
theorem cn_F (h : IC σ) (w : Fr (fun k => 18 ≤ k ∧ k ≤ 20) σ s) : CN σ s := CN.fr (CN.rf h rfl) w (fun k hk => by omega)
theorem mn_put (h : IM σ) (hfq : fa.toInt.toNat = fq) (hsq : sa.toInt.toNat = sq) (w : po_X10_put σ τ pl q ka fa fq sa sq v (s, t)) : MN σ s := by
  rcases w with ⟨-, e, -⟩ | ⟨-, -, hT, hp⟩
  · exact .rf h e
  · have hk : (0 ≤ ka.toInt ∧ ka.toInt ≤ 3 ∧ 2 ≤ fa.toInt ∧ fa.toInt ≤ 12) ∨ (4 ≤ ka.toInt ∧ ka.toInt ≤ 6 ∧ 0 ≤ fa.toInt ∧ fa.toInt < 24 ∧ 0 ≤ sa.toInt ∧ sa.toInt < 24) ∨ ka.toInt = 7 := by
      rcases hp with hp | hp | hp
      · left; omega
      · right; left; omega
      · right; right; exact hp.2.2
    have hI := IM.pt (q := q) h hfq hsq hk
    have h0 : MN σ (up2 (up2 (up2 σ 36 q ka) 37 q fa) 38 q sa) :=
      ⟨fun k h1 => by rw [up2_ne (by omega), up2_ne (by omega), up2_ne (by omega)], hI, fun i h1 h2 => by rw [up2_o (by omega), up2_o (by omega), up2_o (by omega)]⟩
    exact MN.fr (((((((((h0.up (by omega) (fun g => g.up (by omega))).up (by omega) (fun g => g.up (by omega))).up (by omega) (fun g => g.up (by omega))).up (by omega) (fun g => g.u42 (by decide))).up (by omega) (fun g => g.up (by omega))).up (by omega) (fun g => g.u44 (by decide))).up (by omega) (fun g => g.up (by omega))).up (by omega) (fun g => g.up (by omega))).up (by omega) (fun g => g.up (by omega))) hT.1 (fun k hk => hk)
theorem mn_lift (h : IM σ) (w : po_X10_lift σ τ pl q v (s, t)) : MN σ s := by
  rcases w with ⟨-, e, -⟩ | ⟨-, e, -⟩ | ⟨-, e, -⟩
  · exact .rf h e
  · exact .rf h e
  · have e2 : s = _ := e
    rw [e2]
    exact (MN.rf h rfl).up (by omega) (fun g => g.u36)
theorem mn_read (h : IM σ) (w : po_X10_read σ τ pl q xa v (s, t)) : MN σ s := by
  rcases w with ⟨-, e, -⟩ | ⟨-, e, -⟩ | ⟨-, e, -⟩
  · exact .rf h e
  · exact .rf h e
  · have e2 : s = _ := e
    rw [e2]
    exact ((MN.rf h rfl).up (by omega) (fun g => g.up (by omega))).up (by omega) (fun g => g.up (by omega))
theorem mn_back (h : IM σ) (w : po_X10_back σ τ pl q xa v (s, t)) : MN σ s := by
  rcases w with ⟨-, e, -⟩ | ⟨-, e, -⟩ | ⟨-, e, -⟩
  · exact .rf h e
  · exact .rf h e
  · have e2 : s = _ := e
    rw [e2]
    exact ((MN.rf h rfl).up (by omega) (fun g => g.up (by omega))).up (by omega) (fun g => g.up (by omega))
theorem mn_tear (h : IM σ) (w : po_X10_tear σ τ pl q v (s, t)) : MN σ s := by
  rcases w with ⟨-, e, -⟩ | ⟨-, e, -⟩ | ⟨-, -, -, -, hT⟩
  · exact .rf h e
  · exact .rf h e
  · exact MN.fr (MN.rf h rfl) hT.1 (fun k hk => hk)
theorem mn_way (h : IM σ) (w : po_X10_way σ τ pl q xa v (s, t)) : MN σ s := by
  rcases w with ⟨-, e, -⟩ | ⟨-, e, -⟩ | ⟨-, e, -⟩
  · exact .rf h e
  · exact .rf h e
  · have e2 : s = _ := e
    rw [e2]
    exact (MN.rf h rfl).up (by omega) (fun g => g.up (by omega))
theorem mn_difference (h : IM σ) (w : po_X10_difference σ τ xa xq ya yq hr hq v (s, t)) : MN σ s :=
  MN.mr h w (fun k hk => by omega) (fun j hj => by omega) (by have e : s 35 42 = σ 35 42 := w.2 42 (by omega); rw [e]; exact h.2.2.2.2.2.1)
theorem mn_along (h : IM σ) (w : po_X10_along σ τ xa xq ya yq hr hq v (s, t)) : MN σ s :=
  MN.mr h w.1 (fun k hk => hk) (fun j hj => by omega) w.2
theorem mn_F (h : IM σ) (w : MRel (fun _ => False) (fun j => j = 44) σ s) : MN σ s :=
  MN.mr h w (fun k hk => hk.elim) (fun j hj => by omega) (by have e : s 35 42 = σ 35 42 := w.2 42 (by omega); rw [e]; exact h.2.2.2.2.2.1)
theorem mn_take (h : IM σ) (w : po_X10_take σ τ pl q v (s, t)) : MN σ s := by
  rcases w with ⟨-, e, -⟩ | ⟨-, e, -⟩ | ⟨-, e, -⟩
  · exact .rf h e
  · exact .rf h e
  · have e2 : s = _ := e
    rw [e2]
    exact ((((MN.rf h rfl).up (by omega) (fun g => g.up (by omega))).up (by omega) (fun g => g.up (by omega))).up (by omega) (fun g => g.up (by omega))).up (by omega) (fun g => g.u44 (by decide))
theorem mn_leave (h : IM σ) (w : po_X10_leave σ τ pl q v (s, t)) : MN σ s := by
  rcases w with ⟨-, e, -⟩ | ⟨-, e, -⟩ | ⟨-, e, -⟩ | ⟨-, e, -⟩
  · exact .rf h e
  · exact .rf h e
  · have e2 : s = _ := e
    rw [e2]
    exact (MN.rf h rfl).up (by omega) (fun g => g.up (by omega))
  · have e2 : s = _ := e
    rw [e2]
    exact (MN.rf h rfl).up (by omega) (fun g => g.up (by omega))
theorem mn_call (h : IM σ) (w : po_X10_call σ τ pl q oa v (s, t)) : MN σ s := by
  rcases w with ⟨-, e, -⟩ | ⟨-, e, -⟩ | ⟨-, e, -⟩
  · exact .rf h e
  · exact .rf h e
  · have e2 : s = _ := e
    rw [e2]
    exact (MN.rf h rfl).up (by omega) (fun g => g.up (by omega))
theorem mn_steer (h : IM σ) (w : po_X10_steer σ τ pl q xa v (s, t)) : MN σ s := by
  rcases w with ⟨-, e, -⟩ | ⟨-, e, -⟩ | ⟨-, e, -⟩ | ⟨-, e, -, hp, -, hx, hb⟩
  · exact .rf h e
  · exact .rf h e
  · exact .rf h e
  · have e2 : s = _ := e
    rw [e2]
    have e3 : ((σ 42 q) + xa).toInt = (σ 42 q).toInt + xa.toInt := addI rfl rfl (by omega) (by omega)
    exact (MN.rf h rfl).up (by omega) (fun g => g.u42 (by rw [e3]; exact hb))
end CNK
/-! settings, the scale, the close: both sides at once -/
section PAIR
variable {σ s1 s2 : SI} {τ t1 t2 : SL} {v v2 wa xa : Int32}
theorem inv_set (h : Inv σ) (w : po_X9_set σ τ wa xa v (s1, t1)) (w2 : po_X10_set s1 t1 wa xa v2 (s2, t2)) : Inv s2 ∧ v = v2 := by
  obtain ⟨h1, h2, r1, r2, r3⟩ := h
  rcases w with ⟨e0, e, -, a1, a2⟩ | ⟨e0, e, -, a1, a2⟩ | ⟨e0, e, -, a1, a2⟩ | ⟨e0, e, -, a1, a2, a3⟩ <;>
  rcases w2 with ⟨f0, f, -, b1, b2⟩ | ⟨f0, f, -, b1, b2⟩ | ⟨f0, f, -, b1, b2⟩ | ⟨f0, f, -, b1, b2, b3⟩ <;>
  first
  | (exfalso; omega)
  | (have e : s1 = _ := e
     have f : s2 = _ := f
     subst e
     subst f
     refine ⟨⟨?_, ?_, ?_⟩, e0.trans f0.symm⟩
     · first
       | exact h1
       | exact (h1.fr (fun k h1 h2 => up2_ne (by omega))).u35 (by omega) (fun q => by omega) (fun q => by omega)
     · first
       | exact h2
       | (intro j hj; rw [up2_o (by omega), up2_o (by omega)]; exact h2 j hj)
     · first
       | exact ⟨r1, r2, r3⟩
       | (refine ⟨?_, ?_, ?_⟩ <;> simp [up2] <;> assumption))
theorem inv_show (h : Inv σ) (w : po_X9_show σ τ xa v (s1, t1)) (w2 : po_X10_show s1 t1 xa v2 (s2, t2)) : Inv s2 ∧ v = v2 := by
  obtain ⟨h1, h2, r1, r2, r3⟩ := h
  rcases w with ⟨e0, e, -, a1⟩ | ⟨e0, e, -, a1, a2⟩ <;> rcases w2 with ⟨f0, f, -, b1⟩ | ⟨f0, f, -, b1, b2⟩ <;>
  first
  | (exfalso; omega)
  | (have e : s1 = _ := e
     have f : s2 = _ := f
     subst e
     subst f
     refine ⟨⟨?_, ?_, ?_⟩, e0.trans f0.symm⟩
     · first
       | exact h1
       | exact (h1.fr (fun k h1 h2 => up2_ne (by omega))).u35 (by omega) (fun q => by omega) (fun q => by omega)
     · first
       | exact h2
       | (intro j hj; rw [up2_o (by omega), up2_o (by omega)]; exact h2 j hj)
     · first
       | exact ⟨r1, r2, r3⟩
       | (refine ⟨?_, ?_, ?_⟩ <;> simp [up2] <;> assumption))
theorem im_close (h : IM σ) (w : po_X9_close σ τ v (s1, t1)) : IM s1 := by
  rcases w with ⟨-, e, -, a1⟩ | ⟨a1, a2, a3, a4⟩
  · have e : s1 = _ := e
    subst e
    exact h
  · have a2 : ClC σ s1 := a2
    exact h.fr (fun k h1 h2 => a2.1 k (by omega))
theorem inv_close (h : Inv σ) (w : po_X9_close σ τ v (s1, t1)) (w2 : po_X10_close s1 t1 v2 (s2, t2)) : Inv s2 := by
  obtain ⟨h1, h2, r1, r2, r3⟩ := h
  rcases w with ⟨-, e, -, a1⟩ | ⟨a1, a2, a3, a4⟩
  · have e : s1 = _ := e
    subst e
    rcases w2 with ⟨-, -, b1, f⟩ | ⟨-, b1, -⟩
    · have f : s2 = _ := f
      subst f
      exact ⟨h1, h2, r1, r2, r3⟩
    · rw [r1] at a1
      exfalso
      omega
  · have a2 : ClC σ s1 := a2
    have a3 : (s1 0 8).toInt = (σ 0 8).toInt + 1 := a3
    have c35 : s1 35 = σ 35 := a2.1 35 (by omega)
    have hm1 : IM s1 := h1.fr (fun k h1 h2 => a2.1 k (by omega))
    rcases w2 with ⟨-, -, b1, f⟩ | ⟨b0, b1, b2, b3, b4⟩
    · rw [c35, ← r1] at b1
      exfalso
      omega
    · have b0 : MRel _ _ s1 s2 := b0
      have b2 : KM s2 := b2
      have b3 : (s2 35 29).toInt = (s1 35 29).toInt + 1 := b3
      obtain ⟨m1, m2, m3, m4, m5, m6, m7, m8⟩ := hm1
      have g32 : s2 35 32 = s1 35 32 := b0.2 32 (by dsimp only; omega)
      have g42 : s2 35 42 = s1 35 42 := b0.2 42 (by dsimp only; omega)
      have g0 : s2 0 = s1 0 := b0.1 0 (by omega) (by dsimp only; omega)
      refine ⟨⟨?_, m2.ex (b0.1 36 (by omega) (by dsimp only; omega)) (b0.1 37 (by omega) (by dsimp only; omega)) (b0.1 38 (by omega) (by dsimp only; omega)), m3.ex (b0.1 36 (by omega) (by dsimp only; omega)) (b0.1 37 (by omega) (by dsimp only; omega)), ?_, b2, ?_, ?_, ?_⟩, fun j hj => ?_, ?_, ?_, ?_⟩
      · omega
      · rw [b0.1 42 (by omega) (by dsimp only; omega)]; exact m4
      · rw [g42]; exact m6
      · have b4 : (0 < (s1 35 33).toInt ∧ (s2 35 33).toInt = max 0 ((s1 35 33).toInt - (s1 35 32).toInt)) ∨ ((s1 35 33).toInt ≤ 0 ∧ (s2 35 33).toInt = min 0 ((s1 35 33).toInt + (s1 35 32).toInt)) := b4
        omega
      · rw [g32]; exact m8
      · rw [b0.1 (80 + j) (by omega) (by dsimp only; omega), a2.2.1 j 4 hj (by omega)]; exact h2 j hj
      · apply i32_ext
        rw [g0, a3, b3, c35, r1]
      · rw [g0, g32, a2.2.2 11 (by omega) (by omega), c35]; exact r2
      · apply i32_ext
        have b4 : (0 < (s1 35 33).toInt ∧ (s2 35 33).toInt = max 0 ((s1 35 33).toInt - (s1 35 32).toInt)) ∨ ((s1 35 33).toInt ≤ 0 ∧ (s2 35 33).toInt = min 0 ((s1 35 33).toInt + (s1 35 32).toInt)) := b4
        have a4 : (0 < (σ 0 12).toInt ∧ (s1 0 12).toInt = max 0 ((σ 0 12).toInt - (σ 0 11).toInt)) ∨ ((σ 0 12).toInt ≤ 0 ∧ (s1 0 12).toInt = min 0 ((σ 0 12).toInt + (σ 0 11).toInt)) := a4
        rw [c35] at b4
        rw [r2, r3] at a4
        rw [g0]
        omega
end PAIR
theorem inv_0 : Inv s0 := by
  have e36 : ∀ j, s0 36 j = -1 := fun _ => rfl
  have e42 : ∀ j, s0 42 j = 0 := fun _ => rfl
  have e44 : ∀ j, s0 44 j = 0 := fun _ => rfl
  have e56 : ∀ j, s0 56 j = 0 := fun _ => rfl
  refine ⟨⟨by decide, fun j hj hk => ?_, fun j hj hk => ?_, fun j hj => by rw [e42]; decide, ⟨fun j => by rw [e56]; decide, fun j => ?_, fun j => Or.inl rfl, by decide, by decide⟩, by decide, by decide, by decide⟩, fun j hj => ?_, rfl, rfl, rfl⟩
  · rw [e36] at hk
    exact absurd hk (by decide)
  · rw [e36] at hk
    exact absurd hk (by decide)
  · rw [e44]
    exact Or.inr (by decide)
  · rw [s0_clock hj]
    decide
