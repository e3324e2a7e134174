/-! sums over hours: the divisor of a line is above 0 -/
theorem sqle {m B : Int} (h1 : -B ≤ m) (h2 : m ≤ B) : 0 ≤ m * m ∧ m * m ≤ B * B := by
  by_cases h : 0 ≤ m
  · exact ⟨Int.mul_nonneg h h, Int.mul_le_mul h2 h2 h (by omega)⟩
  · have e : m * m = (-m) * (-m) := (Int.neg_mul_neg m m).symm
    rw [e]
    exact ⟨Int.mul_nonneg (by omega) (by omega), Int.mul_le_mul (by omega) (by omega) (by omega) (by omega)⟩
def LSq (b k n s q : Int) : Prop := 0 ≤ n ∧ n ≤ k ∧ (0 ≤ q ∧ q ≤ 144 * n) ∧ (-12 * n ≤ s ∧ s ≤ 0) ∧ 0 ≤ n * q - s * s ∧ (2 ≤ n → 1 ≤ n * q - s * s) ∧ ∀ x, b + k ≤ x → n ≤ q - 2 * (s * x) + n * (x * x)
theorem LSq.st {b k n s q : Int} (hk : k = 0) (hn : n = 0) (hs : s = 0) (hq : q = 0) : LSq b k n s q := by
  subst hk
  subst hn
  subst hs
  subst hq
  exact ⟨by omega, by omega, by omega, by omega, by omega, by omega, fun x _ => by simp⟩
theorem LSq.sk {b k n s q k' : Int} (h : LSq b k n s q) (hk : k' = k + 1) : LSq b k' n s q :=
  ⟨h.1, by have := h.2.1; omega, h.2.2.1, h.2.2.2.1, h.2.2.2.2.1, h.2.2.2.2.2.1, fun x hx => h.2.2.2.2.2.2 x (by omega)⟩
theorem LSq.ad {b k n s q t k' n' s' q' : Int} (h : LSq b k n s q) (ht : t = b + k) (h1 : -12 ≤ t) (h2 : t ≤ -1) (hk : k' = k + 1) (hn : n' = n + 1) (hs : s' = s + t) (hq : q' = q + t * t) : LSq b k' n' s' q' := by
  subst hn
  subst hs
  subst hq
  obtain ⟨a1, a2, a3, a4, a5, a6, a7⟩ := h
  have hW := a7 t (by omega)
  have e : (n + 1) * (q + t * t) - (s + t) * (s + t) = (n * q - s * s) + (q - 2 * (s * t) + n * (t * t)) := by grind
  obtain ⟨t1, t2⟩ := sqle (m := t) (B := 12) (by omega) (by omega)
  refine ⟨by omega, by omega, by omega, by omega, by rw [e]; omega, fun hn => by rw [e]; omega, fun x hx => ?_⟩
  have h8 := a7 x (by omega)
  have h9 : (1 : Int) * 1 ≤ (x - t) * (x - t) := Int.mul_le_mul (by omega) (by omega) (by decide) (by omega)
  have e2 : q + t * t - 2 * ((s + t) * x) + (n + 1) * (x * x) = (q - 2 * (s * x) + n * (x * x)) + (x - t) * (x - t) := by grind
  rw [e2]
  omega
theorem LSq.bd {b k n s q : Int} (h : LSq b k n s q) : 0 ≤ n ∧ n ≤ k ∧ (0 ≤ q ∧ q ≤ 144 * n) ∧ (-12 * n ≤ s ∧ s ≤ 0) := ⟨h.1, h.2.1, h.2.2.1, h.2.2.2.1⟩
theorem LSq.pos {b k n s q : Int} (h : LSq b k n s q) (hk : k ≤ 12) (hn : 2 ≤ n) : (1 ≤ n * q - s * s ∧ n * q - s * s ≤ 20736) ∧ (0 ≤ n * q ∧ n * q ≤ 20736) ∧ (0 ≤ s * s ∧ s * s ≤ 20736) ∧ n ≤ 12 := by
  obtain ⟨a1, a2, a3, a4, a5, a6, a7⟩ := h
  have h1 := a6 hn
  have h2 : n * q ≤ 12 * 1728 := Int.mul_le_mul (by omega) (by omega) (by omega) (by omega)
  have h3 : 0 ≤ n * q := Int.mul_nonneg (by omega) (by omega)
  have h4 := (sqle (m := s) (B := 144) (by omega) (by omega)).1
  omega
theorem mulb {n V : Int} (h1 : 2 ≤ n ∧ n ≤ 12) (h2 : 1 ≤ V ∧ V ≤ 20736) : 0 < n * V ∧ n * V ≤ 248832 := by
  have a : (1 : Int) * 1 ≤ n * V := Int.mul_le_mul (by omega) (by omega) (by decide) (by omega)
  have c : n * V ≤ 12 * 20736 := Int.mul_le_mul (by omega) (by omega) (by omega) (by omega)
  omega
/-! what the model keeps -/
def ClM (σ : SI) : Prop := ∀ j, j < 24 → 0 ≤ (σ 36 j).toInt ∧ (σ 36 j).toInt ≤ 3 → 2 ≤ (σ 37 j).toInt ∧ (σ 37 j).toInt ≤ 12
def KM (σ : SI) : Prop := (∀ j, -30000 ≤ (σ 56 j).toInt ∧ (σ 56 j).toInt ≤ 30000) ∧ (∀ j, (σ 44 j).toInt = -9 ∨ 0 ≤ (σ 44 j).toInt) ∧ (∀ j, σ 71 j = 0 ∨ σ 71 j = 1) ∧ 0 ≤ (σ 35 37).toInt ∧ (σ 35 37).toInt ≤ 100
theorem up2_c {P : Int32 → Prop} {σ : SI} {k j : Nat} {x : Int32} {k' j' : Nat} (h : P (σ k' j')) (hx : k' = k → P x) : P (up2 σ k j x k' j') := by
  by_cases e : k' = k
  · subst e
    by_cases e2 : j' = j
    · subst e2
      rw [up2_s]
      exact hx rfl
    · rw [up2_n e2]
      exact h
  · rw [up2_o e]
    exact h
theorem KM.up {σ : SI} {k j : Nat} {x : Int32} (h : KM σ) (hk : k ≠ 56 ∧ k ≠ 44 ∧ k ≠ 71 ∧ k ≠ 35) : KM (up2 σ k j x) := by
  obtain ⟨h1, h2, h3, h4⟩ := h
  refine ⟨fun i => ?_, fun i => ?_, fun i => ?_, ?_⟩
  · rw [up2_o (by omega)]; exact h1 i
  · rw [up2_o (by omega)]; exact h2 i
  · rw [up2_o (by omega)]; exact h3 i
  · rw [up2_o (by omega)]; exact h4
theorem KM.u35 {σ : SI} {j : Nat} {x : Int32} (h : KM σ) (hj : j ≠ 37) : KM (up2 σ 35 j x) := by
  obtain ⟨h1, h2, h3, h4⟩ := h
  refine ⟨fun i => ?_, fun i => ?_, fun i => ?_, ?_⟩
  · rw [up2_o (by omega)]; exact h1 i
  · rw [up2_o (by omega)]; exact h2 i
  · rw [up2_o (by omega)]; exact h3 i
  · rw [up2_n (by omega)]; exact h4
theorem KM.u56 {σ : SI} {j : Nat} {x : Int32} (h : KM σ) (hx : -30000 ≤ x.toInt ∧ x.toInt ≤ 30000) : KM (up2 σ 56 j x) := by
  obtain ⟨h1, h2, h3, h4⟩ := h
  refine ⟨fun i => ?_, fun i => ?_, fun i => ?_, ?_⟩
  · exact up2_c (P := fun y => -30000 ≤ y.toInt ∧ y.toInt ≤ 30000) (h1 i) (fun _ => hx)
  · rw [up2_o (by omega)]; exact h2 i
  · rw [up2_o (by omega)]; exact h3 i
  · rw [up2_o (by omega)]; exact h4
theorem KM.u44 {σ : SI} {j : Nat} {x : Int32} (h : KM σ) (hx : x.toInt = -9 ∨ 0 ≤ x.toInt) : KM (up2 σ 44 j x) := by
  obtain ⟨h1, h2, h3, h4⟩ := h
  refine ⟨fun i => ?_, fun i => ?_, fun i => ?_, ?_⟩
  · rw [up2_o (by omega)]; exact h1 i
  · exact up2_c (P := fun y => y.toInt = -9 ∨ 0 ≤ y.toInt) (h2 i) (fun _ => hx)
  · rw [up2_o (by omega)]; exact h3 i
  · rw [up2_o (by omega)]; exact h4
theorem KM.u71 {σ : SI} {j : Nat} {x : Int32} (h : KM σ) (hx : x = 0 ∨ x = 1) : KM (up2 σ 71 j x) := by
  obtain ⟨h1, h2, h3, h4⟩ := h
  refine ⟨fun i => ?_, fun i => ?_, fun i => ?_, ?_⟩
  · rw [up2_o (by omega)]; exact h1 i
  · rw [up2_o (by omega)]; exact h2 i
  · exact up2_c (P := fun y => y = 0 ∨ y = 1) (h3 i) (fun _ => hx)
  · rw [up2_o (by omega)]; exact h4
theorem KM.fr {S J : Nat → Prop} {σ σ1 : SI} (h : KM σ) (h2 : MRel S J σ σ1) (a : ¬ S 56) (b : ¬ S 44) (c : ¬ S 71) (hj : ¬ J 37) : KM σ1 := by
  unfold KM
  rw [h2.1 56 (by decide) a, h2.1 44 (by decide) b, h2.1 71 (by decide) c, h2.2 37 hj]
  exact h
theorem KM.f37 {S J : Nat → Prop} {σ σ1 : SI} (h : KM σ) (h2 : MRel S J σ σ1) (a : ¬ S 56) (b : ¬ S 44) (c : ¬ S 71) (hj : 0 ≤ (σ1 35 37).toInt ∧ (σ1 35 37).toInt ≤ 100) : KM σ1 := by
  unfold KM
  rw [h2.1 56 (by decide) a, h2.1 44 (by decide) b, h2.1 71 (by decide) c]
  exact ⟨h.1, h.2.1, h.2.2.1, hj⟩
theorem LnM.fr {S J : Nat → Prop} {σ σ1 : SI} (h : LnM σ) (h2 : MRel S J σ σ1) (a : ¬ S 36) (b : ¬ S 37) (c : ¬ S 38) : LnM σ1 := by
  unfold LnM
  rw [h2.1 36 (by decide) a, h2.1 37 (by decide) b, h2.1 38 (by decide) c]
  exact h
theorem ClM.fr {S J : Nat → Prop} {σ σ1 : SI} (h : ClM σ) (h2 : MRel S J σ σ1) (a : ¬ S 36) (b : ¬ S 37) : ClM σ1 := by
  unfold ClM
  rw [h2.1 36 (by decide) a, h2.1 37 (by decide) b]
  exact h
/-! the remainder of longs -/
theorem tmod_lt {x y : Int} (h : y ≠ 0) : (x.tmod y).natAbs < y.natAbs := by
  rw [Int.natAbs_tmod]
  exact Nat.mod_lt _ (by omega)
theorem rem_T {x y : Int64} (h : y.toInt ≠ 0) : (x - x / y * y).toInt = x.toInt.tmod y.toInt := by
  have hb : ((x.toInt.tdiv y.toInt).bmod 18446744073709551616 * y.toInt).bmod 18446744073709551616 = (x.toInt.tdiv y.toInt * y.toInt).bmod 18446744073709551616 := Int.bmod_mul_bmod
  rw [Int64.toInt_sub, Int64.toInt_mul, Int64.toInt_div]
  show (x.toInt - ((x.toInt.tdiv y.toInt).bmod 18446744073709551616 * y.toInt).bmod 18446744073709551616).bmod 18446744073709551616 = _
  rw [hb, Int.sub_bmod_bmod]
  have e : x.toInt - x.toInt.tdiv y.toInt * y.toInt = x.toInt.tmod y.toInt := by
    rw [Int.tmod_def, Int.mul_comm]
  rw [e]
  have h1 := i64_lo x
  have h2 := i64_hi x
  have h3 := i64_lo y
  have h4 := i64_hi y
  have h5 := tmod_lt (x := x.toInt) h
  exact bm64 (by omega) (by omega)
theorem tmod_half {x y : Int} (h : y.natAbs < x.natAbs) (hy : y ≠ 0) : 2 * (x.tmod y).natAbs < x.natAbs := by
  rw [Int.natAbs_tmod]
  have h1 := Nat.div_add_mod x.natAbs y.natAbs
  have h2 := Nat.mod_lt x.natAbs (show y.natAbs > 0 by omega)
  have h3 : 1 ≤ x.natAbs / y.natAbs := (Nat.one_le_div_iff (by omega)).mpr (by omega)
  have h4 : y.natAbs * 1 ≤ y.natAbs * (x.natAbs / y.natAbs) := Nat.mul_le_mul_left _ h3
  omega
