/-! ===== whole numbers: quotients downwards, products within bounds ===== -/
theorem absmul {x y A B : Int} (hx : -A ≤ x ∧ x ≤ A) (hy : -B ≤ y ∧ y ≤ B) : -(A * B) ≤ x * y ∧ x * y ≤ A * B := by
  have h1 : (x * y).natAbs = x.natAbs * y.natAbs := Int.natAbs_mul x y
  have h2 : x.natAbs * y.natAbs ≤ A.natAbs * B.natAbs := Nat.mul_le_mul (by omega) (by omega)
  have h3 : (A * B).natAbs = A.natAbs * B.natAbs := Int.natAbs_mul A B
  have h4 : 0 ≤ A * B := Int.mul_nonneg (by omega) (by omega)
  omega
theorem ofL {a : Int} (h1 : -9223372036854775808 ≤ a) (h2 : a < 9223372036854775808) : (Int64.ofInt a).toInt = a := by
  rw [Int64.toInt_ofInt]
  exact bm64 h1 h2
theorem ofI {a : Int} (h1 : -2147483648 ≤ a) (h2 : a < 2147483648) : (Int32.ofInt a).toInt = a := by
  rw [Int32.toInt_ofInt]
  exact bm32 h1 h2
theorem i64_ext {x y : Int64} (h : x.toInt = y.toInt) : x = y := Int64.toInt_inj.mp h
theorem xor_neg (x y : Int64) : ((x ^^^ y).toInt < 0) ↔ ¬ (x.toInt < 0 ↔ y.toInt < 0) := by
  have h : (x ^^^ y).toBitVec.msb = (x.toBitVec.msb ^^ y.toBitVec.msb) := by rw [Int64.toBitVec_xor, BitVec.msb_xor]
  rw [BitVec.msb_eq_toInt, BitVec.msb_eq_toInt, BitVec.msb_eq_toInt] at h
  show (x ^^^ y).toBitVec.toInt < 0 ↔ ¬ (x.toBitVec.toInt < 0 ↔ y.toBitVec.toInt < 0)
  by_cases a : x.toBitVec.toInt < 0 <;> by_cases b : y.toBitVec.toInt < 0 <;> by_cases c : (x ^^^ y).toBitVec.toInt < 0 <;> simp only [a, b, c] at h ⊢ <;> simp at h ⊢
theorem dv_u {x y z : Int} (hy : 0 < y) (h1 : z * y ≤ x) (h2 : x < (z + 1) * y) : x / y = z := by
  have a := (Int.le_ediv_iff_mul_le hy).mpr h1
  have b := (Int.ediv_lt_iff_lt_mul hy).mpr h2
  omega
theorem tdm {x y : Int} (hy : 0 < y) : x = x.tdiv y * y + x.tmod y ∧ -y < x.tmod y ∧ x.tmod y < y ∧ (0 ≤ x → 0 ≤ x.tmod y) ∧ (x ≤ 0 → x.tmod y ≤ 0) := by
  have h1 : x.tmod y = x - y * x.tdiv y := Int.tmod_def x y
  have h2 := tmod_lt (x := x) (y := y) (by omega)
  have h3 : y * x.tdiv y = x.tdiv y * y := Int.mul_comm _ _
  refine ⟨by omega, by omega, by omega, fun h => Int.tmod_nonneg y h, fun h => ?_⟩
  have h4 : 0 ≤ (-x).tmod y := Int.tmod_nonneg y (by omega)
  rw [Int.neg_tmod] at h4
  omega
theorem divT {x y : Int64} (hy : 0 < y.toInt) : (x / y).toInt = x.toInt.tdiv y.toInt := by
  have h1 := i64_lo x
  have h2 := i64_hi x
  have h3 : (x.toInt.tdiv y.toInt).natAbs = x.toInt.natAbs / y.toInt.natAbs := Int.natAbs_tdiv _ _
  have h4 : x.toInt.natAbs / y.toInt.natAbs ≤ x.toInt.natAbs := Nat.div_le_self _ _
  rw [Int64.toInt_div]
  by_cases g : x.toInt.tdiv y.toInt = 9223372036854775808
  · exfalso
    obtain ⟨t1, t2, t3, t4, t5⟩ := tdm (x := x.toInt) hy
    rw [g] at t1
    have h5 : (9223372036854775808 : Int) * 1 ≤ 9223372036854775808 * y.toInt := Int.mul_le_mul_of_nonneg_left (by omega) (by decide)
    omega
  · exact bm64 (by omega) (by omega)
theorem tdm2 {x y : Int} (hy : 0 < y) : (0 ≤ x → 0 ≤ x.tdiv y * y) ∧ (x ≤ 0 → x.tdiv y * y ≤ 0) := by
  refine ⟨fun h => Int.mul_nonneg (Int.tdiv_nonneg h (by omega)) (by omega), fun h => ?_⟩
  have a : 0 ≤ (-x).tdiv y * y := Int.mul_nonneg (Int.tdiv_nonneg (by omega) (by omega)) (by omega)
  rw [Int.neg_tdiv, Int.neg_mul] at a
  omega
theorem divm {x y : Int64} (hy : 0 < y.toInt) : (x / y * y).toInt = x.toInt - x.toInt.tmod y.toInt ∧ (x / y).toInt * y.toInt = x.toInt - x.toInt.tmod y.toInt := by
  obtain ⟨t1, t2, t3, t4, t5⟩ := tdm (x := x.toInt) hy
  have e := divT (x := x) hy
  have h1 := i64_lo x
  have h2 := i64_hi x
  obtain ⟨z1, z2⟩ := tdm2 (x := x.toInt) hy
  have m : (x / y).toInt * y.toInt = x.toInt - x.toInt.tmod y.toInt := by rw [e]; omega
  refine ⟨?_, m⟩
  rw [mulL rfl rfl (by rw [m]; omega) (by rw [m]; omega)]
  exact m
theorem fdv_a {x y : Int64} (hy : 0 < y.toInt) (hc : 0 ≤ (x ^^^ y).toInt) : (x / y).toInt = x.toInt / y.toInt := by
  have h0 : 0 ≤ x.toInt := by
    rcases Int.lt_or_le x.toInt 0 with g | g
    · have := (xor_neg x y).mpr (fun h => by have := h.mp g; omega)
      omega
    · exact g
  obtain ⟨t1, t2, t3, t4, t5⟩ := tdm (x := x.toInt) hy
  have m := (divm (x := x) hy).2
  have := t4 h0
  exact (dv_u hy (by omega) (by rw [Int.add_mul]; omega)).symm
theorem fdv_b {x y : Int64} (hy : 0 < y.toInt) (hc : (x / y * y).toInt = x.toInt) : (x / y).toInt = x.toInt / y.toInt := by
  have m := divm (x := x) hy
  exact (dv_u hy (by omega) (by rw [Int.add_mul]; omega)).symm
theorem fdv_c {x y : Int64} (hy : 0 < y.toInt) (hx : -4000000000000000000 < x.toInt) (h0 : (x ^^^ y).toInt < 0) (hc : (x / y * y).toInt ≠ x.toInt) : (x / y - 1).toInt = x.toInt / y.toInt := by
  have h9 : x.toInt < 0 := by
    rcases Int.lt_or_le x.toInt 0 with g | g
    · exact g
    · have := (xor_neg x y).mp h0
      exact absurd ⟨fun h => by omega, fun h => by omega⟩ this
  have m := divm (x := x) hy
  obtain ⟨t1, t2, t3, t4, t5⟩ := tdm (x := x.toInt) hy
  have h5 := t5 (by omega)
  have h3 : (x.toInt.tdiv y.toInt).natAbs = x.toInt.natAbs / y.toInt.natAbs := Int.natAbs_tdiv _ _
  have h4 : x.toInt.natAbs / y.toInt.natAbs ≤ x.toInt.natAbs := Nat.div_le_self _ _
  have e := divT (x := x) hy
  have e1 : (1 : Int64).toInt = 1 := by decide
  rw [subL rfl e1 (by omega) (by omega)]
  exact (dv_u hy (by rw [Int.sub_mul]; omega) (by rw [Int.add_mul, Int.sub_mul]; omega)).symm
theorem fmd_a {x y : Int64} (hy : 0 < y.toInt) (hc : 0 ≤ (x ^^^ y).toInt) : (x - x / y * y).toInt = x.toInt % y.toInt := by
  have e := fdv_a hy hc
  have m := divm (x := x) hy
  rw [rem_T (by omega), Int.emod_def, ← e, Int.mul_comm]
  omega
theorem fmd_b {x y : Int64} (hy : 0 < y.toInt) (hc : (x - x / y * y).toInt = 0) : (x - x / y * y).toInt = x.toInt % y.toInt := by
  have m := divm (x := x) hy
  have r := rem_T (x := x) (y := y) (by omega)
  have e := fdv_b (x := x) hy (by omega)
  rw [r, Int.emod_def, ← e, Int.mul_comm]
  omega
theorem fmd_c {x y : Int64} (hy : 0 < y.toInt) (hx : -4000000000000000000 < x.toInt) (h0 : (x ^^^ y).toInt < 0) (hc : (x - x / y * y).toInt ≠ 0) : (x - x / y * y + y).toInt = x.toInt % y.toInt := by
  have m := divm (x := x) hy
  have r := rem_T (x := x) (y := y) (by omega)
  have e := fdv_c (x := x) hy hx h0 (by omega)
  obtain ⟨t1, t2, t3, t4, t5⟩ := tdm (x := x.toInt) hy
  have h1 := i64_hi y
  have e1 : (1 : Int64).toInt = 1 := by decide
  have h3 : (x.toInt.tdiv y.toInt).natAbs = x.toInt.natAbs / y.toInt.natAbs := Int.natAbs_tdiv _ _
  have h4 : x.toInt.natAbs / y.toInt.natAbs ≤ x.toInt.natAbs := Nat.div_le_self _ _
  have e2 := divT (x := x) hy
  have hx0 := i64_hi x
  have e3 : (x / y - 1).toInt = (x / y).toInt - 1 := subL rfl e1 (by omega) (by omega)
  have h9 : x.toInt < 0 := by
    rcases Int.lt_or_le x.toInt 0 with g | g
    · exact g
    · have := (xor_neg x y).mp h0
      exact absurd ⟨fun h => by omega, fun h => by omega⟩ this
  have h8 := t5 (by omega)
  rw [addL r rfl (by omega) (by omega), Int.emod_def, ← e, e3, Int.mul_comm, Int.sub_mul]
  omega
theorem dw_a {x y : Int64} (hy : 0 < y.toInt) (h0 : 0 ≤ x.toInt) : (x / y).toInt = x.toInt / y.toInt := by
  obtain ⟨t1, t2, t3, t4, t5⟩ := tdm (x := x.toInt) hy
  have m := (divm (x := x) hy).2
  have := t4 h0
  exact (dv_u hy (by omega) (by rw [Int.add_mul]; omega)).symm
theorem dw_b {x y : Int64} (hy : 0 < y.toInt) (hy2 : y.toInt < 4000000000000000000) (hx : -4000000000000000000 < x.toInt) (h0 : x.toInt < 0) : (-((-x + y - 1) / y)).toInt = x.toInt / y.toInt := by
  have e1 : (1 : Int64).toInt = 1 := by decide
  have a1 : (-x).toInt = -x.toInt := negL rfl (by omega)
  have a2 : (-x + y).toInt = -x.toInt + y.toInt := addL a1 rfl (by omega) (by omega)
  have a3 : (-x + y - 1).toInt = -x.toInt + y.toInt - 1 := subL a2 e1 (by omega) (by omega)
  have d := dw_a (x := -x + y - 1) hy (by omega)
  have m := (divm (x := -x + y - 1) hy).2
  obtain ⟨t1, t2, t3, t4, t5⟩ := tdm (x := (-x + y - 1).toInt) hy
  have h4 := t4 (by omega)
  have h3 : ((-x + y - 1).toInt.tdiv y.toInt).natAbs = (-x + y - 1).toInt.natAbs / y.toInt.natAbs := Int.natAbs_tdiv _ _
  have h5 : (-x + y - 1).toInt.natAbs / y.toInt.natAbs ≤ (-x + y - 1).toInt.natAbs := Nat.div_le_self _ _
  have e2 := divT (x := -x + y - 1) hy
  rw [negL rfl (by omega)]
  exact (dv_u hy (by rw [Int.neg_mul]; omega) (by rw [Int.add_mul, Int.neg_mul]; omega)).symm
/-- the greatest common divisor, as the class's loop finds it: what holds at its n-th turn -/
def GCi (g : Int) (a b : Int64) (n : Nat) : Prop := 0 < a.toInt ∧ 0 ≤ b.toInt ∧ (Int.gcd a.toInt b.toInt : Int) = g ∧ ((n = 0 ∧ a.toInt < 32768) ∨ (n = 1 ∧ b.toInt < 32768) ∨ (2 ≤ n ∧ b.toInt ≤ a.toInt ∧ a.toInt.natAbs * b.toInt.natAbs * 2 ^ n ≤ 4294967296))
theorem GCi.st {A B : Int} {a b : Int64} (ha : a.toInt = B) (hb : b.toInt = A.natAbs) (h1 : 0 < B) (h2 : B < 32768) : GCi (Int.gcd A B) a b 0 := by
  refine ⟨by omega, by omega, ?_, Or.inl ⟨rfl, by omega⟩⟩
  rw [ha, hb, Int.gcd_comm]
  congr 1
theorem gcd_st {a b : Int} (ha : 0 ≤ a) (hb : 0 < b) : Int.gcd b (a.tmod b) = Int.gcd a b := by
  show Nat.gcd b.natAbs (a.tmod b).natAbs = Nat.gcd a.natAbs b.natAbs
  rw [Int.natAbs_tmod, Nat.gcd_comm b.natAbs, ← Nat.gcd_rec, Nat.gcd_comm]
theorem GCi.go {g : Int} {a b : Int64} {n : Nat} (h : GCi g a b n) (hb : b.toInt ≠ 0) : GCi g b (a - a / b * b) (n + 1) := by
  obtain ⟨h1, h2, h3, h4⟩ := h
  have r := rem_T (x := a) (y := b) hb
  obtain ⟨t1, t2, t3, t4, t5⟩ := tdm (x := a.toInt) (y := b.toInt) (by omega)
  have t6 := t4 (by omega)
  refine ⟨by omega, by omega, ?_, ?_⟩
  · rw [r, gcd_st (by omega) (by omega)]
    exact h3
  · rw [r]
    have le : a.toInt.tmod b.toInt ≤ a.toInt := by
      have q0 : 0 ≤ a.toInt.tdiv b.toInt := Int.tdiv_nonneg (by omega) (by omega)
      have q1 : 0 ≤ a.toInt.tdiv b.toInt * b.toInt := Int.mul_nonneg q0 (by omega)
      omega
    rcases h4 with ⟨n0, h4⟩ | ⟨n0, h4⟩ | ⟨n0, h4, h5⟩
    · exact Or.inr (Or.inl ⟨by omega, by omega⟩)
    · refine Or.inr (Or.inr ⟨by omega, by omega, ?_⟩)
      subst n0
      have m1 : b.toInt.natAbs * (a.toInt.tmod b.toInt).natAbs ≤ 32768 * 32768 := Nat.mul_le_mul (by omega) (by omega)
      show b.toInt.natAbs * (a.toInt.tmod b.toInt).natAbs * 4 ≤ 4294967296
      omega
    · refine Or.inr (Or.inr ⟨by omega, by omega, ?_⟩)
      have q1 : 1 ≤ a.toInt.tdiv b.toInt := by
        rcases Int.lt_or_le (a.toInt.tdiv b.toInt) 1 with z | z
        · exfalso
          have : a.toInt.tdiv b.toInt * b.toInt ≤ 0 * b.toInt := Int.mul_le_mul_of_nonneg_right (by omega) (by omega)
          omega
        · exact z
      have q2 : 1 * b.toInt ≤ a.toInt.tdiv b.toInt * b.toInt := Int.mul_le_mul_of_nonneg_right q1 (by omega)
      have m1 : b.toInt.natAbs * (a.toInt.tmod b.toInt).natAbs * 2 ≤ a.toInt.natAbs * b.toInt.natAbs := by
        rw [Nat.mul_assoc, Nat.mul_comm]
        exact Nat.mul_le_mul (by omega) (Nat.le_refl _)
      rw [Nat.pow_succ, Nat.mul_comm (2 ^ n) 2, ← Nat.mul_assoc]
      exact Nat.le_trans (Nat.mul_le_mul m1 (Nat.le_refl _)) h5
theorem GCi.nd {g : Int} {a b : Int64} {n : Nat} (h : GCi g a b n) (hb : b.toInt = 0 ∨ n = 200) : a.toInt = g := by
  obtain ⟨h1, h2, h3, h4⟩ := h
  have b0 : b.toInt = 0 := by
    rcases hb with hb | hb
    · exact hb
    · rcases h4 with ⟨n0, -⟩ | ⟨n0, -⟩ | ⟨-, -, h5⟩
      · omega
      · omega
      · subst hb
        rcases Nat.eq_zero_or_pos b.toInt.natAbs with z | z
        · omega
        · exfalso
          have m1 : 1 * 1 ≤ a.toInt.natAbs * b.toInt.natAbs := Nat.mul_le_mul (by omega) z
          have m2 : 1 * 2 ^ 200 ≤ a.toInt.natAbs * b.toInt.natAbs * 2 ^ 200 := Nat.mul_le_mul (by omega) (Nat.le_refl _)
          have m3 : 4294967296 < 1 * 2 ^ 200 := by decide
          exact absurd (Nat.le_trans m2 h5) (Nat.not_le.mpr m3)
  rw [b0, Int.gcd_zero_right] at h3
  omega
/-! ===== the past of a clock, as both sides have it ===== -/
def ofC (σ : SI) (wa hr pl : Int32) : Int32 := if wa.toInt < 0 ∨ 5 ≤ wa.toInt ∨ hr.toInt < 0 ∨ 200 ≤ hr.toInt ∨ pl.toInt < 0 ∨ 24 ≤ pl.toInt then 2000000000 else σ (24 + wa.toInt.toNat) ((hr.toInt * 24) + pl.toInt).toNat
/-- a row of what is told, at an hour and a place -/
def rC (σ : SI) (k q : Nat) (t : Int) : Int32 := if t < 0 ∨ 200 ≤ t then 2000000000 else σ k (24 * t.toNat + q)
/-- the same, since the clock was taken -/
def xC (σ : SI) (k q : Nat) (t : Int) : Int32 := if t < (σ (80 + q) 8).toInt then 2000000000 else rC σ k q t
def isXp (σ : SI) (q : Nat) (t : Int) : Prop := (σ 43 q).toInt ≤ t ∧ 0 ≤ t ∧ t < (σ 35 29).toInt ∧ (σ 52 (24 * t.toNat + q)).toInt ≠ 0
def isMp (σ : SI) (q : Nat) (t : Int) : Prop := isXp σ q t ∧ (σ 53 (24 * t.toNat + q)).toInt ≠ 0
def pX (σ : SI) (q : Nat) (t : Int) : Int32 := if (σ 43 q).toInt ≤ t ∧ 0 ≤ t ∧ t < (σ 35 29).toInt ∧ (σ 52 (24 * t.toNat + q)).toInt ≠ 0 then σ 54 (24 * t.toNat + q) else 2000000000
def pM (σ : SI) (q : Nat) (t : Int) : Int32 := if ((σ 43 q).toInt ≤ t ∧ 0 ≤ t ∧ t < (σ 35 29).toInt ∧ (σ 52 (24 * t.toNat + q)).toInt ≠ 0) ∧ (σ 53 (24 * t.toNat + q)).toInt ≠ 0 then σ 56 (24 * t.toNat + q) else 2000000000
theorem ofC_r {σ : SI} {wa hr : Int32} {q w : Nat} (hw : wa.toInt = (w : Int)) (w5 : w < 5) (hq : q < 24) : ofC σ wa hr (nI q) = rC σ (24 + w) q hr.toInt := by
  have e : (nI q).toInt = (q : Int) := nI_T q (by omega)
  unfold ofC rC
  by_cases g : hr.toInt < 0 ∨ 200 ≤ hr.toInt
  · rw [if_pos (by omega), if_pos g]
  · rw [if_neg (by omega), if_neg g, hw, e, Int.toNat_natCast, show ((hr.toInt * 24) + (q : Int)).toNat = 24 * hr.toInt.toNat + q by omega]
theorem xC_r {σ : SI} {k q : Nat} {t : Int} (h : (σ (80 + q) 8).toInt ≤ t) : xC σ k q t = rC σ k q t := by
  unfold xC
  rw [if_neg (by omega)]
theorem xC_ex {σ s : SI} {k q : Nat} (e1 : s (80 + q) 8 = σ (80 + q) 8) (e2 : s k = σ k) : xC s k q = xC σ k q := by
  funext t
  unfold xC rC
  rw [e1, e2]
def XB (σ : SI) : Prop := ∀ j, -1100000000 ≤ (σ 54 j).toInt ∧ (σ 54 j).toInt ≤ 1100000000
theorem pX_v {σ : SI} {q : Nat} {t : Int} (h : isXp σ q t) : pX σ q t = σ 54 (24 * t.toNat + q) := if_pos h
theorem pX_n {σ : SI} {q : Nat} {t : Int} (h : ¬ isXp σ q t) : (pX σ q t).toInt = 2000000000 := by
  have e : pX σ q t = 2000000000 := if_neg h
  rw [e]
  decide
theorem pX_y {σ : SI} {q : Nat} {t : Int} (hb : XB σ) (h : isXp σ q t) : (pX σ q t).toInt ≠ 2000000000 := by
  rw [pX_v h]
  have := hb (24 * t.toNat + q)
  omega
theorem pM_v {σ : SI} {q : Nat} {t : Int} (h : isMp σ q t) : pM σ q t = σ 56 (24 * t.toNat + q) := if_pos h
theorem pM_n {σ : SI} {q : Nat} {t : Int} (h : ¬ isMp σ q t) : (pM σ q t).toInt = 2000000000 := by
  have e : pM σ q t = 2000000000 := if_neg h
  rw [e]
  decide
theorem pM_y {σ : SI} {q : Nat} {t : Int} (hb : KM σ) (h : isMp σ q t) : (pM σ q t).toInt ≠ 2000000000 := by
  rw [pM_v h]
  have := hb.1 (24 * t.toNat + q)
  omega
theorem pX_ex {σ s : SI} {q : Nat} (e1 : s 43 = σ 43) (e2 : s 35 29 = σ 35 29) (e3 : s 52 = σ 52) (e4 : s 54 = σ 54) : pX s q = pX σ q := by
  funext t
  unfold pX
  rw [e1, e2, e3, e4]
theorem pM_ex {σ s : SI} {q : Nat} (e1 : s 43 = σ 43) (e2 : s 35 29 = σ 35 29) (e3 : s 52 = σ 52) (e4 : s 53 = σ 53) (e5 : s 56 = σ 56) : pM s q = pM σ q := by
  funext t
  unfold pM
  rw [e1, e2, e3, e4, e5]
def XR (f : Int → Int32) : Prop := ∀ t, (f t).toInt = 2000000000 ∨ (-1100000000 ≤ (f t).toInt ∧ (f t).toInt ≤ 1100000000)
def MR6 (f : Int → Int32) : Prop := ∀ t, (f t).toInt = 2000000000 ∨ (-30000 ≤ (f t).toInt ∧ (f t).toInt ≤ 30000)
theorem pX_R {σ : SI} {q : Nat} (hb : XB σ) : XR (pX σ q) := fun t => by
  by_cases h : isXp σ q t
  · rw [pX_v h]
    exact Or.inr (hb _)
  · exact Or.inl (pX_n h)
theorem pM_R {σ : SI} {q : Nat} (hb : KM σ) : MR6 (pM σ q) := fun t => by
  by_cases h : isMp σ q t
  · rw [pM_v h]
    exact Or.inr (hb.1 _)
  · exact Or.inl (pM_n h)
/-! how many X's -/
def cnX (f : Int → Int32) : Nat → Int32
  | 0 => 0
  | n + 1 => if (f (n : Int)).toInt = 2000000000 then cnX f n else cnX f n + 1
theorem cnX_0 {f : Int → Int32} : ∀ n : Nat, (∀ t : Nat, t < n → (f (t : Int)).toInt = 2000000000) → cnX f n = 0
  | 0, _ => rfl
  | n + 1, h => by
    show (if (f (n : Int)).toInt = 2000000000 then cnX f n else cnX f n + 1) = 0
    rw [if_pos (h n (by omega)), cnX_0 n (fun t ht => h t (by omega))]
theorem cnX_y {f : Int → Int32} {x x' : Int32} {t t' : Int} (h : x = cnX f t.toNat) (ht : 0 ≤ t) (e : t' = t + 1) (hf : (f t).toInt ≠ 2000000000) (ex : x' = x + 1) : x' = cnX f t'.toNat := by
  rw [show t'.toNat = t.toNat + 1 by omega]
  show x' = (if (f (t.toNat : Int)).toInt = 2000000000 then cnX f t.toNat else cnX f t.toNat + 1)
  rw [Int.toNat_of_nonneg ht, if_neg hf, ex, h]
theorem cnX_n {f : Int → Int32} {x : Int32} {t t' : Int} (h : x = cnX f t.toNat) (ht : 0 ≤ t) (e : t' = t + 1) (hf : (f t).toInt = 2000000000) : x = cnX f t'.toNat := by
  rw [show t'.toNat = t.toNat + 1 by omega]
  show x = (if (f (t.toNat : Int)).toInt = 2000000000 then cnX f t.toNat else cnX f t.toNat + 1)
  rw [Int.toNat_of_nonneg ht, if_pos hf, h]
theorem cnX_st {σ : SI} {k q : Nat} (h0 : 0 ≤ (σ (80 + q) 8).toInt) : (0 : Int32) = cnX (xC σ k q) (σ (80 + q) 8).toInt.toNat :=
  (cnX_0 _ (fun t ht => by unfold xC; rw [if_pos (by omega)]; decide)).symm
/-! the straight line -/
abbrev L5 : Type := Int32 × Int64 × Int64 × Int64 × Int64
def LN (g : Int → Option Int64) (lo h : Int) : Nat → L5
  | 0 => (0, 0, 0, 0, 0)
  | n + 1 => match g (lo + (n : Int)) with
    | none => LN g lo h n
    | some x => ((LN g lo h n).1 + 1, (LN g lo h n).2.1 + Int64.ofInt (lo + (n : Int) - h), (LN g lo h n).2.2.1 + x, (LN g lo h n).2.2.2.1 + Int64.ofInt (lo + (n : Int) - h) * Int64.ofInt (lo + (n : Int) - h), (LN g lo h n).2.2.2.2 + Int64.ofInt (lo + (n : Int) - h) * x)
theorem LN_n {g : Int → Option Int64} {lo h : Int} {n : Nat} (e : g (lo + (n : Int)) = none) : LN g lo h (n + 1) = LN g lo h n := by simp only [LN, e]
theorem LN_s {g : Int → Option Int64} {lo h : Int} {n : Nat} {x : Int64} (e : g (lo + (n : Int)) = some x) : LN g lo h (n + 1) = ((LN g lo h n).1 + 1, (LN g lo h n).2.1 + Int64.ofInt (lo + (n : Int) - h), (LN g lo h n).2.2.1 + x, (LN g lo h n).2.2.2.1 + Int64.ofInt (lo + (n : Int) - h) * Int64.ofInt (lo + (n : Int) - h), (LN g lo h n).2.2.2.2 + Int64.ofInt (lo + (n : Int) - h) * x) := by simp only [LN, e]
def fX (f : Int → Int32) (t : Int) : Option Int64 := if (f t).toInt = 2000000000 then none else some (f t).toInt64
def fG (f : Int → Int32) (lo t : Int) : Option Int64 := if (f t).toInt = 2000000000 ∨ t ≤ lo ∨ (f (t - 1)).toInt = 2000000000 then none else some ((f t).toInt64 - (f (t - 1)).toInt64)
def fF (ga : Int32) (f : Int → Int32) (lo t : Int) : Option Int64 := if ga.toInt = 0 then fX f t else fG f lo t
def Bd6 (g : Int → Option Int64) : Prop := ∀ t x, g t = some x → -2300000000 ≤ x.toInt ∧ x.toInt ≤ 2300000000
theorem fX_bd {f : Int → Int32} (hf : XR f) : Bd6 (fX f) := fun t x h => by
  unfold fX at h
  by_cases g : (f t).toInt = 2000000000
  · rw [if_pos g] at h
    cases h
  · rw [if_neg g] at h
    cases h
    rw [i2lI rfl]
    have := hf t
    omega
theorem fG_bd {f : Int → Int32} {lo : Int} (hf : XR f) : Bd6 (fG f lo) := fun t x h => by
  unfold fG at h
  by_cases g : (f t).toInt = 2000000000 ∨ t ≤ lo ∨ (f (t - 1)).toInt = 2000000000
  · rw [if_pos g] at h
    cases h
  · rw [if_neg g] at h
    cases h
    have h1 := hf t
    have h2 := hf (t - 1)
    rw [subL (i2lI rfl) (i2lI rfl) (by omega) (by omega)]
    omega
theorem fF_bd {ga : Int32} {f : Int → Int32} {lo : Int} (hf : XR f) : Bd6 (fF ga f lo) := fun t x h => by
  unfold fF at h
  by_cases g : ga.toInt = 0
  · rw [if_pos g] at h
    exact fX_bd hf t x h
  · rw [if_neg g] at h
    exact fG_bd hf t x h
abbrev L0 (L : L5) : Int := L.1.toInt
abbrev L1 (L : L5) : Int := L.2.1.toInt
abbrev L2 (L : L5) : Int := L.2.2.1.toInt
abbrev L3 (L : L5) : Int := L.2.2.2.1.toInt
abbrev L4 (L : L5) : Int := L.2.2.2.2.toInt
def BEr (L : L5) : Int := L0 L * L3 L - L1 L * L1 L
def ABr (L : L5) : Int := L0 L * L4 L - L1 L * L2 L
def LB (L : L5) : Prop := (0 ≤ L0 L ∧ L0 L ≤ 12) ∧ (-144 ≤ L1 L ∧ L1 L ≤ 0) ∧ (-27600000000 ≤ L2 L ∧ L2 L ≤ 27600000000) ∧ (0 ≤ L3 L ∧ L3 L ≤ 1728) ∧ (-331200000000 ≤ L4 L ∧ L4 L ≤ 331200000000) ∧ (0 ≤ BEr L ∧ BEr L ≤ 20736) ∧ (2 ≤ L0 L → 1 ≤ BEr L) ∧ (L0 L ≤ 1 → BEr L = 0) ∧ (L0 L = 0 → L2 L = 0)
theorem LN_bd {g : Int → Option Int64} {lo h : Int} (hg : Bd6 g) (h12 : h ≤ lo + 12) : ∀ n : Nat, lo + (n : Int) ≤ h →
    LSq (lo - h) n (L0 (LN g lo h n)) (L1 (LN g lo h n)) (L3 (LN g lo h n)) ∧ (-2300000000 * (n : Int) ≤ L2 (LN g lo h n) ∧ L2 (LN g lo h n) ≤ 2300000000 * (n : Int)) ∧ (-27600000000 * (n : Int) ≤ L4 (LN g lo h n) ∧ L4 (LN g lo h n) ≤ 27600000000 * (n : Int)) ∧ (L0 (LN g lo h n) ≤ 1 → BEr (LN g lo h n) = 0) ∧ (L0 (LN g lo h n) = 0 → L2 (LN g lo h n) = 0)
  | 0, _ => by
    have z1 : (0 : Int32).toInt = 0 := by decide
    have z2 : (0 : Int64).toInt = 0 := by decide
    have e0 : L0 (LN g lo h 0) = 0 := z1
    have e1 : L1 (LN g lo h 0) = 0 := z2
    have e2 : L2 (LN g lo h 0) = 0 := z2
    have e3 : L3 (LN g lo h 0) = 0 := z2
    have e4 : L4 (LN g lo h 0) = 0 := z2
    unfold BEr
    rw [e0, e1, e2, e3, e4]
    exact ⟨LSq.st rfl rfl rfl rfl, by omega, by omega, fun _ => by decide, fun _ => rfl⟩
  | n + 1, hn => by
    obtain ⟨a1, a2, a3, a4, a5⟩ := LN_bd hg h12 n (by omega)
    match hgt : g (lo + (n : Int)) with
    | none =>
      rw [LN_n hgt]
      exact ⟨a1.sk (by omega), by omega, by omega, a4, a5⟩
    | some x =>
      rw [LN_s hgt]
      have hx := hg _ x hgt
      have hb := a1.bd
      have eT : (Int64.ofInt (lo + (n : Int) - h)).toInt = lo + (n : Int) - h := ofL (by omega) (by omega)
      have m1 := absmul (x := lo + (n : Int) - h) (y := lo + (n : Int) - h) (A := 12) (B := 12) (by omega) (by omega)
      have m2 := absmul (x := lo + (n : Int) - h) (y := x.toInt) (A := 12) (B := 2300000000) (by omega) (by omega)
      have eTT : (Int64.ofInt (lo + (n : Int) - h) * Int64.ofInt (lo + (n : Int) - h)).toInt = (lo + (n : Int) - h) * (lo + (n : Int) - h) := mulL eT eT (by omega) (by omega)
      have eTx : (Int64.ofInt (lo + (n : Int) - h) * x).toInt = (lo + (n : Int) - h) * x.toInt := mulL eT rfl (by omega) (by omega)
      have z1 : (1 : Int32).toInt = 1 := by decide
      have e0 : ((LN g lo h n).1 + 1).toInt = L0 (LN g lo h n) + 1 := addI rfl z1 (by omega) (by omega)
      have e1 : ((LN g lo h n).2.1 + Int64.ofInt (lo + (n : Int) - h)).toInt = L1 (LN g lo h n) + (lo + (n : Int) - h) := addL rfl eT (by omega) (by omega)
      have e2 : ((LN g lo h n).2.2.1 + x).toInt = L2 (LN g lo h n) + x.toInt := addL rfl rfl (by omega) (by omega)
      have e3 : ((LN g lo h n).2.2.2.1 + Int64.ofInt (lo + (n : Int) - h) * Int64.ofInt (lo + (n : Int) - h)).toInt = L3 (LN g lo h n) + (lo + (n : Int) - h) * (lo + (n : Int) - h) := addL rfl eTT (by omega) (by omega)
      have e4 : ((LN g lo h n).2.2.2.2 + Int64.ofInt (lo + (n : Int) - h) * x).toInt = L4 (LN g lo h n) + (lo + (n : Int) - h) * x.toInt := addL rfl eTx (by omega) (by omega)
      unfold BEr
      show LSq (lo - h) ((n + 1 : Nat) : Int) ((LN g lo h n).1 + 1).toInt ((LN g lo h n).2.1 + Int64.ofInt (lo + (n : Int) - h)).toInt ((LN g lo h n).2.2.2.1 + Int64.ofInt (lo + (n : Int) - h) * Int64.ofInt (lo + (n : Int) - h)).toInt ∧ (_ ≤ ((LN g lo h n).2.2.1 + x).toInt ∧ ((LN g lo h n).2.2.1 + x).toInt ≤ _) ∧ (_ ≤ ((LN g lo h n).2.2.2.2 + Int64.ofInt (lo + (n : Int) - h) * x).toInt ∧ ((LN g lo h n).2.2.2.2 + Int64.ofInt (lo + (n : Int) - h) * x).toInt ≤ _) ∧ (((LN g lo h n).1 + 1).toInt ≤ 1 → ((LN g lo h n).1 + 1).toInt * ((LN g lo h n).2.2.2.1 + Int64.ofInt (lo + (n : Int) - h) * Int64.ofInt (lo + (n : Int) - h)).toInt - ((LN g lo h n).2.1 + Int64.ofInt (lo + (n : Int) - h)).toInt * ((LN g lo h n).2.1 + Int64.ofInt (lo + (n : Int) - h)).toInt = 0) ∧ (((LN g lo h n).1 + 1).toInt = 0 → ((LN g lo h n).2.2.1 + x).toInt = 0)
      rw [e0, e1, e2, e3, e4]
      refine ⟨a1.ad (t := lo + (n : Int) - h) (by omega) (by omega) (by omega) (by omega) rfl rfl rfl, by omega, by omega, fun hc => ?_, fun hc => by omega⟩
      have c0 : L0 (LN g lo h n) = 0 := by omega
      have c1 : L1 (LN g lo h n) = 0 := by omega
      have c3 : L3 (LN g lo h n) = 0 := by omega
      rw [c0, c1, c3]
      grind
theorem LN_lb {g : Int → Option Int64} {lo h : Int} {n : Nat} (hg : Bd6 g) (h12 : h ≤ lo + 12) (hn : lo + (n : Int) ≤ h) : LB (LN g lo h n) := by
  obtain ⟨a1, a2, a3, a4, a5⟩ := LN_bd hg h12 n hn
  have hb := a1.bd
  refine ⟨by omega, by omega, by omega, by omega, by omega, ?_, fun h2 => ?_, a4, a5⟩
  · by_cases c : 2 ≤ L0 (LN g lo h n)
    · have p := a1.pos (by omega) c
      unfold BEr
      omega
    · rw [a4 (by omega)]
      omega
  · exact (a1.pos (by omega) h2).1.1
/-- the line's height at its end, downwards -/
def VZ (L : L5) : Int := if 0 < BEr L then (L2 L * L3 L - L1 L * L4 L) / BEr L else L2 L
theorem BEl {L : L5} (h : LB L) : (L.1.toInt64 * L.2.2.2.1 - L.2.1 * L.2.1).toInt = BEr L := by
  obtain ⟨h0, h1, h2, h3, h4, -⟩ := h
  have m1 := absmul (x := L0 L) (y := L3 L) (A := 12) (B := 1728) (by omega) (by omega)
  have m2 := absmul (x := L1 L) (y := L1 L) (A := 144) (B := 144) (by omega) (by omega)
  exact subL (mulL (i2lI rfl) rfl (by omega) (by omega)) (mulL rfl rfl (by omega) (by omega)) (by omega) (by omega)
theorem AB_bd {L : L5} (h : LB L) : -8000000000000 ≤ ABr L ∧ ABr L ≤ 8000000000000 := by
  obtain ⟨h0, h1, h2, h3, h4, -⟩ := h
  have m1 := absmul (x := L0 L) (y := L4 L) (A := 12) (B := 331200000000) (by omega) (by omega)
  have m2 := absmul (x := L1 L) (y := L2 L) (A := 144) (B := 27600000000) (by omega) (by omega)
  unfold ABr
  omega
theorem ABl {L : L5} (h : LB L) : (L.1.toInt64 * L.2.2.2.2 - L.2.1 * L.2.2.1).toInt = ABr L := by
  obtain ⟨h0, h1, h2, h3, h4, -⟩ := h
  have m1 := absmul (x := L0 L) (y := L4 L) (A := 12) (B := 331200000000) (by omega) (by omega)
  have m2 := absmul (x := L1 L) (y := L2 L) (A := 144) (B := 27600000000) (by omega) (by omega)
  exact subL (mulL (i2lI rfl) rfl (by omega) (by omega)) (mulL rfl rfl (by omega) (by omega)) (by omega) (by omega)
theorem VN_bd {L : L5} (h : LB L) : -100000000000000 ≤ L2 L * L3 L - L1 L * L4 L ∧ L2 L * L3 L - L1 L * L4 L ≤ 100000000000000 := by
  obtain ⟨h0, h1, h2, h3, h4, -⟩ := h
  have m1 := absmul (x := L2 L) (y := L3 L) (A := 27600000000) (B := 1728) (by omega) (by omega)
  have m2 := absmul (x := L1 L) (y := L4 L) (A := 144) (B := 331200000000) (by omega) (by omega)
  omega
theorem VNl {L : L5} (h : LB L) : (L.2.2.1 * L.2.2.2.1 - L.2.1 * L.2.2.2.2).toInt = L2 L * L3 L - L1 L * L4 L := by
  obtain ⟨h0, h1, h2, h3, h4, -⟩ := h
  have m1 := absmul (x := L2 L) (y := L3 L) (A := 27600000000) (B := 1728) (by omega) (by omega)
  have m2 := absmul (x := L1 L) (y := L4 L) (A := 144) (B := 331200000000) (by omega) (by omega)
  exact subL (mulL rfl rfl (by omega) (by omega)) (mulL rfl rfl (by omega) (by omega)) (by omega) (by omega)
theorem VZ_bd {L : L5} (h : LB L) : -100000000000000 ≤ VZ L ∧ VZ L ≤ 100000000000000 := by
  have n := VN_bd h
  unfold VZ
  by_cases g : 0 < BEr L
  · rw [if_pos g]
    have a := (Int.le_ediv_iff_mul_le (a := -100000000000000) (b := L2 L * L3 L - L1 L * L4 L) g).mpr (by
      have m : (100000000000000 : Int) * 1 ≤ 100000000000000 * BEr L := Int.mul_le_mul_of_nonneg_left (by omega) (by decide)
      rw [Int.neg_mul]
      omega)
    have b := (Int.ediv_lt_iff_lt_mul (a := L2 L * L3 L - L1 L * L4 L) (b := 100000000000001) g).mpr (by
      have m : (100000000000001 : Int) * 1 ≤ 100000000000001 * BEr L := Int.mul_le_mul_of_nonneg_left (by omega) (by decide)
      omega)
    omega
  · rw [if_neg g]
    have h2 := h.2.2.1
    omega
/-- the reference's height of the line -/
theorem VZ_ref {L : L5} (h : LB L) (h2 : 2 ≤ L0 L) : (L2 L * BEr L - ABr L * L1 L) / (L0 L * BEr L) = VZ L := by
  have hp := h.2.2.2.2.2.2.1 h2
  have e : L2 L * BEr L - ABr L * L1 L = L0 L * (L2 L * L3 L - L1 L * L4 L) := by
    unfold BEr ABr
    grind
  unfold VZ
  rw [if_pos (by omega), e]
  exact Int.mul_ediv_mul_of_pos _ _ (by omega)
def AB6 (L : L5) : Int := if 2 ≤ L0 L then ABr L else 0
def BE6 (L : L5) : Int := if 2 ≤ L0 L then BEr L else 1
def cl9b (x : Int) : Int32 := Int32.ofInt (max (-1000000000) (min 1000000000 x))
theorem cl9b_T (x : Int) : (cl9b x).toInt = max (-1000000000) (min 1000000000 x) := ofI (by omega) (by omega)
abbrev LX (f : Int → Int32) (sp h : Int) : L5 := LN (fX f) (h - sp) h sp.toNat
abbrev LG (f : Int → Int32) (sp h : Int) : L5 := LN (fG f (h - sp)) (h - sp) h sp.toNat
abbrev bGp (f : Int → Int32) (sp h kd : Int) : Prop := kd = 2 ∧ 2 ≤ L0 (LG f sp h) ∧ (f (h - 1)).toInt ≠ 2000000000
def LF (f : Int → Int32) (sp h kd : Int) : L5 := if bGp f sp h kd then LG f sp h else LX f sp h
def BF6 (f : Int → Int32) (sp h kd : Int) : Int := if bGp f sp h kd then (f (h - 1)).toInt else 0
/-- what is FORETOLD of the one whose X's are f -/
def FT (f : Int → Int32) (sp h kd : Int) : Int32 := if L0 (LF f sp h kd) = 0 then 2000000000 else cl9b (BF6 f sp h kd + VZ (LF f sp h kd))
/-- the slope of the line that is used there -/
def SLP (f : Int → Int32) (sp h kd wh : Int) : Int32 := if L0 (LF f sp h kd) = 0 then 2000000000 else cl9b ((if wh = 0 then AB6 (LF f sp h kd) else BE6 (LF f sp h kd)).tdiv (Int.gcd (AB6 (LF f sp h kd)) (BE6 (LF f sp h kd))))
theorem LF_lb {f : Int → Int32} {sp h kd : Int} (hf : XR f) (hs : 0 ≤ sp ∧ sp ≤ 12) : LB (LF f sp h kd) := by
  unfold LF
  by_cases g : bGp f sp h kd
  · rw [if_pos g]
    exact LN_lb (fG_bd hf) (by omega) (by omega)
  · rw [if_neg g]
    exact LN_lb (fX_bd hf) (by omega) (by omega)
theorem FT_bd {f : Int → Int32} {sp h kd : Int} : (FT f sp h kd).toInt = 2000000000 ∨ (-1000000000 ≤ (FT f sp h kd).toInt ∧ (FT f sp h kd).toInt ≤ 1000000000) := by
  unfold FT
  by_cases g : L0 (LF f sp h kd) = 0
  · rw [if_pos g]
    exact Or.inl (by decide)
  · rw [if_neg g, cl9b_T]
    omega
theorem BF_bd {f : Int → Int32} {sp h kd : Int} (hf : XR f) : -1100000000 ≤ BF6 f sp h kd ∧ BF6 f sp h kd ≤ 1100000000 := by
  unfold BF6
  by_cases g : bGp f sp h kd
  · rw [if_pos g]
    have := hf (h - 1)
    have := g.2.2
    omega
  · rw [if_neg g]
    omega
/-! what was MISSED -/
def ab6 (x : Int32) : Int32 := if 0 ≤ x.toInt then x else -x
def MG (f : Int → Int32) (lo : Int) : Nat → Int32 × Int64 × Int64
  | 0 => (0, 0, 0)
  | n + 1 => if (f (lo + (n : Int))).toInt = 2000000000 then MG f lo n else ((MG f lo n).1 + 1, (MG f lo n).2.1 + (ab6 (f (lo + (n : Int)))).toInt64, (MG f lo n).2.2 + (f (lo + (n : Int))).toInt64 * (f (lo + (n : Int))).toInt64)
theorem MG_n {f : Int → Int32} {lo : Int} {n : Nat} (h : (f (lo + (n : Int))).toInt = 2000000000) : MG f lo (n + 1) = MG f lo n := by
  show (if _ then _ else _) = _
  rw [if_pos h]
theorem MG_s {f : Int → Int32} {lo : Int} {n : Nat} (h : (f (lo + (n : Int))).toInt ≠ 2000000000) : MG f lo (n + 1) = ((MG f lo n).1 + 1, (MG f lo n).2.1 + (ab6 (f (lo + (n : Int)))).toInt64, (MG f lo n).2.2 + (f (lo + (n : Int))).toInt64 * (f (lo + (n : Int))).toInt64) := by
  show (if _ then _ else _) = _
  rw [if_neg h]
theorem MG_0 {f : Int → Int32} {lo : Int} : ∀ n : Nat, (∀ t : Int, lo ≤ t → t < lo + n → (f t).toInt = 2000000000) → MG f lo n = (0, 0, 0)
  | 0, _ => rfl
  | n + 1, h => by rw [MG_n (h _ (by omega) (by omega)), MG_0 n (fun t a b => h t a (by omega))]
theorem ab6_T {x : Int32} (h : -30000 ≤ x.toInt ∧ x.toInt ≤ 30000) : (ab6 x).toInt = (x.toInt.natAbs : Int) := by
  unfold ab6
  by_cases g : 0 ≤ x.toInt
  · rw [if_pos g]
    omega
  · rw [if_neg g, negI rfl (by omega)]
    omega
theorem MG_bd {f : Int → Int32} {lo : Int} (hf : MR6 f) : ∀ n : Nat, (n : Int) ≤ 12 → (0 ≤ (MG f lo n).1.toInt ∧ (MG f lo n).1.toInt ≤ n) ∧ (0 ≤ (MG f lo n).2.1.toInt ∧ (MG f lo n).2.1.toInt ≤ 30000 * (n : Int)) ∧ (0 ≤ (MG f lo n).2.2.toInt ∧ (MG f lo n).2.2.toInt ≤ 900000000 * (n : Int))
  | 0, _ => ⟨by show 0 ≤ (0 : Int32).toInt ∧ (0 : Int32).toInt ≤ _; decide, by show 0 ≤ (0 : Int64).toInt ∧ (0 : Int64).toInt ≤ _; decide, by show 0 ≤ (0 : Int64).toInt ∧ (0 : Int64).toInt ≤ _; decide⟩
  | n + 1, hn => by
    obtain ⟨a1, a2, a3⟩ := MG_bd (lo := lo) hf n (by omega)
    by_cases g : (f (lo + (n : Int))).toInt = 2000000000
    · rw [MG_n g]
      omega
    · rw [MG_s g]
      have hx := (hf (lo + (n : Int))).resolve_left g
      have q := sqle (m := (f (lo + (n : Int))).toInt) (B := 30000) (by omega) (by omega)
      have z1 : (1 : Int32).toInt = 1 := by decide
      have e1 : ((MG f lo n).1 + 1).toInt = (MG f lo n).1.toInt + 1 := addI rfl z1 (by omega) (by omega)
      have e0 := ab6_T hx
      have e2 : ((MG f lo n).2.1 + (ab6 (f (lo + (n : Int)))).toInt64).toInt = (MG f lo n).2.1.toInt + ((f (lo + (n : Int))).toInt.natAbs : Int) := addL rfl (i2lI e0) (by omega) (by omega)
      have e3 : ((MG f lo n).2.2 + (f (lo + (n : Int))).toInt64 * (f (lo + (n : Int))).toInt64).toInt = (MG f lo n).2.2.toInt + (f (lo + (n : Int))).toInt * (f (lo + (n : Int))).toInt := addL rfl (mulL (i2lI rfl) (i2lI rfl) (by omega) (by omega)) (by omega) (by omega)
      show (0 ≤ ((MG f lo n).1 + 1).toInt ∧ ((MG f lo n).1 + 1).toInt ≤ _) ∧ (0 ≤ ((MG f lo n).2.1 + (ab6 (f (lo + (n : Int)))).toInt64).toInt ∧ ((MG f lo n).2.1 + (ab6 (f (lo + (n : Int)))).toInt64).toInt ≤ _) ∧ (0 ≤ ((MG f lo n).2.2 + (f (lo + (n : Int))).toInt64 * (f (lo + (n : Int))).toInt64).toInt ∧ ((MG f lo n).2.2 + (f (lo + (n : Int))).toInt64 * (f (lo + (n : Int))).toInt64).toInt ≤ _)
      rw [e1, e2, e3]
      omega
abbrev MGr6 (f : Int → Int32) (rc h : Int) : Int32 × Int64 × Int64 := MG f (h - rc) rc.toNat
theorem MGr_bd {f : Int → Int32} {rc h : Int} (hf : MR6 f) (hr : 0 ≤ rc ∧ rc ≤ 12) : (0 ≤ (MGr6 f rc h).1.toInt ∧ (MGr6 f rc h).1.toInt ≤ 12) ∧ (0 ≤ (MGr6 f rc h).2.1.toInt ∧ (MGr6 f rc h).2.1.toInt ≤ 360000) ∧ (0 ≤ (MGr6 f rc h).2.2.toInt ∧ (MGr6 f rc h).2.2.toInt ≤ 10800000000) := by
  have b := MG_bd (lo := h - rc) hf rc.toNat (by omega)
  exact ⟨⟨b.1.1, Int.le_trans b.1.2 (by omega)⟩, ⟨b.2.1.1, Int.le_trans b.2.1.2 (by omega)⟩, ⟨b.2.2.1, Int.le_trans b.2.2.2 (by omega)⟩⟩
/-- the FULL WEIGHT -/
def FW6 (ou : Int) (ft : Int32) (f : Int → Int32) (rc h : Int) : Int32 := if ft.toInt = 2000000000 ∨ ou ≠ 0 then 0 else if (MGr6 f rc h).1.toInt = 0 then 1 else Int32.ofInt (max 1 (Int.tdiv 1000000 (1 + (MGr6 f rc h).2.2.toInt)))
/-- the mean amount that was MISSED -/
def UM6 (f : Int → Int32) (rc h : Int) : Int64 := if (MGr6 f rc h).1.toInt = 0 then 0 else (MGr6 f rc h).2.1 / (MGr6 f rc h).1.toInt64
theorem FW_bd {ou : Int} {ft : Int32} {f : Int → Int32} {rc h : Int} (hf : MR6 f) (hr : 0 ≤ rc ∧ rc ≤ 12) : 0 ≤ (FW6 ou ft f rc h).toInt ∧ (FW6 ou ft f rc h).toInt ≤ 1000000 := by
  unfold FW6
  by_cases g : ft.toInt = 2000000000 ∨ ou ≠ 0
  · rw [if_pos g]
    decide
  · rw [if_neg g]
    by_cases g2 : (MGr6 f rc h).1.toInt = 0
    · rw [if_pos g2]
      decide
    · rw [if_neg g2]
      have b := MGr_bd (h := h) hf hr
      obtain ⟨t1, t2, t3, t4, t5⟩ := tdm (x := 1000000) (y := 1 + (MGr6 f rc h).2.2.toInt) (by omega)
      have t6 := t4 (by omega)
      have q0 : 0 ≤ Int.tdiv 1000000 (1 + (MGr6 f rc h).2.2.toInt) := Int.tdiv_nonneg (by omega) (by omega)
      have q1 : Int.tdiv 1000000 (1 + (MGr6 f rc h).2.2.toInt) * 1 ≤ Int.tdiv 1000000 (1 + (MGr6 f rc h).2.2.toInt) * (1 + (MGr6 f rc h).2.2.toInt) := Int.mul_le_mul_of_nonneg_left (by omega) q0
      rw [ofI (by omega) (by omega)]
      omega
/-! steps and drifts -/
abbrev sg6 (a b : Int32) : Prop := (0 < a.toInt ∧ 0 < b.toInt) ∨ (a.toInt < 0 ∧ b.toInt < 0)
abbrev D16 (a b : Int32) : Prop := a.toInt ≠ 2000000000 ∧ b.toInt ≠ 2000000000 ∧ sg6 a b ∧ (a.toInt.natAbs : Int) < (b.toInt.natAbs : Int)
abbrev DR6 (f : Int → Int32) (h : Int) (m : Int32) : Prop := D16 (f (h - 3)) (f (h - 2)) ∧ D16 (f (h - 2)) (f (h - 1)) ∧ D16 (f (h - 1)) m
abbrev ST6 (b m : Int32) : Prop := sg6 b m ∧ ((b.toInt.natAbs : Int) + 1) / 2 ≤ (m.toInt.natAbs : Int)
abbrev LM6 (f : Int → Int32) (rc h : Int) (ti m : Int32) : Prop := (ti.toInt64 * (UM6 f rc h + 1)).toInt < (m.toInt.natAbs : Int)
