def adrM : Nat → Nat
  | 0 => 0
  | 1 => 1
  | 2 => 2
  | 3 => 3
  | 4 => 4
  | 5 => 101
  | 6 => 102
  | 7 => 108
  | 8 => 115
  | 9 => 116
  | 10 => 117
  | 11 => 118
  | 12 => 119
  | 13 => 120
  | 14 => 121
  | 15 => 122
  | 16 => 123
  | 17 => 124
  | 18 => 125
  | 19 => 126
  | 20 => 127
  | 21 => 128
  | 22 => 129
  | 23 => 130
  | 24 => 103
  | 25 => 104
  | 26 => 105
  | 27 => 106
  | 28 => 107
  | 29 => 109
  | 30 => 110
  | 31 => 111
  | 32 => 112
  | 33 => 113
  | 34 => 114
  | 35 => 131
  | k => 96 + k
/-- where the object of number k lies behind both constructors -/
def adr (k : Nat) : Nat := if k < 80 then adrM k else if k < 104 then 5 + 4 * (k - 80) else if k < 128 then 6 + 4 * (k - 104) else if k < 152 then 7 + 4 * (k - 128) else 8 + 4 * (k - 152)
def adrI (a : Nat) : Nat := if a < 5 then a else if a < 101 then (if (a - 5) % 4 = 0 then 80 + (a - 5) / 4 else if (a - 5) % 4 = 1 then 104 + (a - 5) / 4 else if (a - 5) % 4 = 2 then 128 + (a - 5) / 4 else 152 + (a - 5) / 4) else ((List.range 80).find? (fun k => adr k == a)).getD 0
theorem adr_inv : ∀ i, i < 176 → adrI (adr i) = i := by decide +kernel
theorem adr_clock {p : Nat} (h : p < 24) : adr (80 + p) = 5 + 4 * p := by
  unfold adr
  rw [if_neg (by omega), if_pos (by omega), Nat.add_sub_cancel_left]
theorem adr_link {p : Nat} (h : p < 24) : adr (104 + p) = 6 + 4 * p := by
  unfold adr
  rw [if_neg (by omega), if_neg (by omega), if_pos (by omega), Nat.add_sub_cancel_left]
theorem adr_there {p : Nat} (h : p < 24) : adr (128 + p) = 7 + 4 * p := by
  unfold adr
  rw [if_neg (by omega), if_neg (by omega), if_neg (by omega), if_pos (by omega), Nat.add_sub_cancel_left]
theorem adr_back {p : Nat} (h : p < 24) : adr (152 + p) = 8 + 4 * p := by
  unfold adr
  rw [if_neg (by omega), if_neg (by omega), if_neg (by omega), if_neg (by omega), Nat.add_sub_cancel_left]
def s0M : Nat → Nat → Int32
  | 0 => fun j => if j = 9 then 40 else if j = 10 then 5 else if j = 11 then 10 else 0
  | 2 => fun _ => -1
  | 24 => fun _ => 2000000000
  | 25 => fun _ => 2000000000
  | 26 => fun _ => 2000000000
  | 28 => fun _ => 2000000000
  | 29 => fun _ => -1
  | 30 => fun _ => -1
  | 31 => fun _ => -1
  | 32 => fun _ => -1
  | 33 => fun _ => -1
  | 34 => fun _ => -1
  | 35 => fun j => if j = 30 then 40 else if j = 31 then 5 else if j = 32 then 10 else 0
  | 36 => fun _ => -1
  | _ => fun _ => 0
def s0C (j : Nat) : Int32 := if j = 2 then 2 else if j = 3 then 1 else if j = 9 then -10 else 0
def s0L (j : Nat) : Int32 := if j = 0 then 4 else if j = 1 then -1 else if j = 2 then -1 else 0
/-- the first state -/
def s0 (k : Nat) : Nat → Int32 := if k < 80 then s0M k else if k < 104 then s0C else if k < 128 then s0L else fun _ => 0
theorem s0_clock {p : Nat} (h : p < 24) : s0 (80 + p) = s0C := by
  unfold s0
  rw [if_neg (by omega), if_pos (by omega)]
theorem s0_link {p : Nat} (h : p < 24) : s0 (104 + p) = s0L := by
  unfold s0
  rw [if_neg (by omega), if_neg (by omega), if_pos (by omega)]
theorem s0_row {k : Nat} (h : 128 ≤ k) : s0 k = fun _ => 0 := by
  unfold s0
  rw [if_neg (by omega), if_neg (by omega), if_neg (by omega)]
abbrev t0 : SL := fun _ _ => 0
abbrev GB (D : va_G) (B : Nat) (cA : Nat → ClassId) : Gx := (D, fun k => B + adr k, cA)
theorem gok {D : va_G} {B : Nat} {cA : Nat → ClassId} : GOk (GB D B cA) (fun q => B ≤ q) := by
  refine ⟨fun i j hi hj h => ?_, fun i _ => Nat.le_add_right B _⟩
  have h2 : adr i = adr j := Nat.add_left_cancel h
  rw [← adr_inv i hi, ← adr_inv j hj, h2]
section R40
variable {D : va_G} {B : Nat} {cA : Nat → ClassId} {H : Heap}
theorem r40_0 (h9 : DX9 (GB D B cA) B (B + 1) H) (h10 : DX10 (GB D B cA) (B + 131) (B + 132) H) {e : va_E} (he : ct (GB D B cA) 0 (s0 0) (t0 0) = some e) : va_at D vwCl (B + adr 0, e) H := by
  rw [ct_bench] at he
  cases he
  exact h9.1
theorem r40_1 (h9 : DX9 (GB D B cA) B (B + 1) H) (h10 : DX10 (GB D B cA) (B + 131) (B + 132) H) {e : va_E} (he : ct (GB D B cA) 1 (s0 1) (t0 1) = some e) : va_at D vwCl (B + adr 1, e) H := by
  rw [ct_shelf] at he
  cases he
  exact h9.2.1.1
theorem r40_2 (h9 : DX9 (GB D B cA) B (B + 1) H) (h10 : DX10 (GB D B cA) (B + 131) (B + 132) H) {e : va_E} (he : ct (GB D B cA) 2 (s0 2) (t0 2) = some e) : va_at D vwCl (B + adr 2, e) H := by
  rw [ct_kinds] at he
  cases he
  exact h9.2.1.2.1
theorem r40_3 (h9 : DX9 (GB D B cA) B (B + 1) H) (h10 : DX10 (GB D B cA) (B + 131) (B + 132) H) {e : va_E} (he : ct (GB D B cA) 3 (s0 3) (t0 3) = some e) : va_at D vwCl (B + adr 3, e) H := by
  rw [ct_clocks] at he
  cases he
  exact kq_congr (G := GB D B cA) (t := 2) (a := B + 3) h9.2.1.2.2.1 (fun j hj => by rw [if_pos hj]; show some (B + 1 + 1 + (3 + 4 * j)) = some (B + adr (80 + j)); rw [adr_clock hj]; congr 1; omega)
theorem r40_4 (h9 : DX9 (GB D B cA) B (B + 1) H) (h10 : DX10 (GB D B cA) (B + 131) (B + 132) H) {e : va_E} (he : ct (GB D B cA) 4 (s0 4) (t0 4) = some e) : va_at D vwCl (B + adr 4, e) H := by
  rw [ct_links] at he
  cases he
  exact kq_congr (G := GB D B cA) (t := 3) (a := B + 4) h9.2.1.2.2.2.1 (fun j hj => by rw [if_pos hj]; show some (B + 1 + 1 + (4 + 4 * j)) = some (B + adr (104 + j)); rw [adr_link hj]; congr 1; omega)
theorem r40_5 (h9 : DX9 (GB D B cA) B (B + 1) H) (h10 : DX10 (GB D B cA) (B + 131) (B + 132) H) {e : va_E} (he : ct (GB D B cA) 5 (s0 5) (t0 5) = some e) : va_at D vwCl (B + adr 5, e) H := by
  rw [ct_told] at he
  cases he
  exact h9.2.2.1.1
theorem r40_6 (h9 : DX9 (GB D B cA) B (B + 1) H) (h10 : DX10 (GB D B cA) (B + 131) (B + 132) H) {e : va_E} (he : ct (GB D B cA) 6 (s0 6) (t0 6) = some e) : va_at D vwCl (B + adr 6, e) H := by
  rw [ct_clockRows] at he
  cases he
  exact kq_congr (G := GB D B cA) (t := 4) (a := B + 102) h9.2.2.1.2.1 (fun j hj => by rw [if_pos hj]; rcases (show j = 0 ∨ j = 1 ∨ j = 2 ∨ j = 3 ∨ j = 4 by omega) with rfl | rfl | rfl | rfl | rfl <;> rfl)
theorem r40_7 (h9 : DX9 (GB D B cA) B (B + 1) H) (h10 : DX10 (GB D B cA) (B + 131) (B + 132) H) {e : va_E} (he : ct (GB D B cA) 7 (s0 7) (t0 7) = some e) : va_at D vwCl (B + adr 7, e) H := by
  rw [ct_paperRows] at he
  cases he
  exact kq_congr (G := GB D B cA) (t := 4) (a := B + 108) h9.2.2.1.2.2.1 (fun j hj => by rw [if_pos hj]; rcases (show j = 0 ∨ j = 1 ∨ j = 2 ∨ j = 3 ∨ j = 4 ∨ j = 5 by omega) with rfl | rfl | rfl | rfl | rfl | rfl <;> rfl)
theorem r40_8 (h9 : DX9 (GB D B cA) B (B + 1) H) (h10 : DX10 (GB D B cA) (B + 131) (B + 132) H) {e : va_E} (he : ct (GB D B cA) 8 (s0 8) (t0 8) = some e) : va_at D vwCl (B + adr 8, e) H := by
  rw [ct_steps] at he
  cases he
  exact h9.2.2.2.1.1
theorem r40_9 (h9 : DX9 (GB D B cA) B (B + 1) H) (h10 : DX10 (GB D B cA) (B + 131) (B + 132) H) {e : va_E} (he : ct (GB D B cA) 9 (s0 9) (t0 9) = some e) : va_at D vwCl (B + adr 9, e) H := by
  rw [ct_hours] at he
  cases he
  exact h9.2.2.2.1.2.1
theorem r40_10 (h9 : DX9 (GB D B cA) B (B + 1) H) (h10 : DX10 (GB D B cA) (B + 131) (B + 132) H) {e : va_E} (he : ct (GB D B cA) 10 (s0 10) (t0 10) = some e) : va_at D vwCl (B + adr 10, e) H := by
  rw [ct_places] at he
  cases he
  exact h9.2.2.2.1.2.2.1
theorem r40_11 (h9 : DX9 (GB D B cA) B (B + 1) H) (h10 : DX10 (GB D B cA) (B + 131) (B + 132) H) {e : va_E} (he : ct (GB D B cA) 11 (s0 11) (t0 11) = some e) : va_at D vwCl (B + adr 11, e) H := by
  rw [ct_misses] at he
  cases he
  exact h9.2.2.2.1.2.2.2
theorem r40_12 (h9 : DX9 (GB D B cA) B (B + 1) H) (h10 : DX10 (GB D B cA) (B + 131) (B + 132) H) {e : va_E} (he : ct (GB D B cA) 12 (s0 12) (t0 12) = some e) : va_at D vwCl (B + adr 12, e) H := by
  rw [ct_ways] at he
  cases he
  exact h9.2.2.2.2.1.1
theorem r40_13 (h9 : DX9 (GB D B cA) B (B + 1) H) (h10 : DX10 (GB D B cA) (B + 131) (B + 132) H) {e : va_E} (he : ct (GB D B cA) 13 (s0 13) (t0 13) = some e) : va_at D vwCl (B + adr 13, e) H := by
  rw [ct_queue] at he
  cases he
  exact h9.2.2.2.2.1.2.1
theorem r40_14 (h9 : DX9 (GB D B cA) B (B + 1) H) (h10 : DX10 (GB D B cA) (B + 131) (B + 132) H) {e : va_E} (he : ct (GB D B cA) 14 (s0 14) (t0 14) = some e) : va_at D vwCl (B + adr 14, e) H := by
  rw [ct_lengths] at he
  cases he
  exact h9.2.2.2.2.1.2.2.1
theorem r40_15 (h9 : DX9 (GB D B cA) B (B + 1) H) (h10 : DX10 (GB D B cA) (B + 131) (B + 132) H) {e : va_E} (he : ct (GB D B cA) 15 (s0 15) (t0 15) = some e) : va_at D vwCl (B + adr 15, e) H := by
  rw [ct_sums] at he
  cases he
  exact h9.2.2.2.2.1.2.2.2.1
theorem r40_16 (h9 : DX9 (GB D B cA) B (B + 1) H) (h10 : DX10 (GB D B cA) (B + 131) (B + 132) H) {e : va_E} (he : ct (GB D B cA) 16 (s0 16) (t0 16) = some e) : va_at D vwCl (B + adr 16, e) H := by
  rw [ct_lastLinks] at he
  cases he
  exact h9.2.2.2.2.1.2.2.2.2.1
theorem r40_17 (h9 : DX9 (GB D B cA) B (B + 1) H) (h10 : DX10 (GB D B cA) (B + 131) (B + 132) H) {e : va_E} (he : ct (GB D B cA) 17 (s0 17) (t0 17) = some e) : va_at D vwCl (B + adr 17, e) H := by
  rw [ct_ahead] at he
  cases he
  exact h9.2.2.2.2.1.2.2.2.2.2
theorem r40_18 (h9 : DX9 (GB D B cA) B (B + 1) H) (h10 : DX10 (GB D B cA) (B + 131) (B + 132) H) {e : va_E} (he : ct (GB D B cA) 18 (s0 18) (t0 18) = some e) : va_at D vwCl (B + adr 18, e) H := by
  rw [ct_fore] at he
  cases he
  exact h9.2.2.2.2.2.1.1
theorem r40_19 (h9 : DX9 (GB D B cA) B (B + 1) H) (h10 : DX10 (GB D B cA) (B + 131) (B + 132) H) {e : va_E} (he : ct (GB D B cA) 19 (s0 19) (t0 19) = some e) : va_at D vwCl (B + adr 19, e) H := by
  rw [ct_xs] at he
  cases he
  exact h9.2.2.2.2.2.1.2.1
theorem r40_20 (h9 : DX9 (GB D B cA) B (B + 1) H) (h10 : DX10 (GB D B cA) (B + 131) (B + 132) H) {e : va_E} (he : ct (GB D B cA) 20 (s0 20) (t0 20) = some e) : va_at D vwCl (B + adr 20, e) H := by
  rw [ct_gains] at he
  cases he
  exact h9.2.2.2.2.2.1.2.2
theorem r40_21 (h9 : DX9 (GB D B cA) B (B + 1) H) (h10 : DX10 (GB D B cA) (B + 131) (B + 132) H) {e : va_E} (he : ct (GB D B cA) 21 (s0 21) (t0 21) = some e) : va_at D vwCl (B + adr 21, e) H := by
  rw [ct_closing] at he
  cases he
  exact h9.2.2.2.2.2.2.1.1
theorem r40_22 (h9 : DX9 (GB D B cA) B (B + 1) H) (h10 : DX10 (GB D B cA) (B + 131) (B + 132) H) {e : va_E} (he : ct (GB D B cA) 22 (s0 22) (t0 22) = some e) : va_at D vwCl (B + adr 22, e) H := by
  rw [ct_fullWeights] at he
  cases he
  exact h9.2.2.2.2.2.2.1.2
theorem r40_23 (h9 : DX9 (GB D B cA) B (B + 1) H) (h10 : DX10 (GB D B cA) (B + 131) (B + 132) H) {e : va_E} (he : ct (GB D B cA) 23 (s0 23) (t0 23) = some e) : va_at D vwCl (B + adr 23, e) H := by
  rw [ct_wayTold] at he
  cases he
  exact h9.2.2.2.2.2.2.2
theorem r40_24 (h9 : DX9 (GB D B cA) B (B + 1) H) (h10 : DX10 (GB D B cA) (B + 131) (B + 132) H) {e : va_E} (he : ct (GB D B cA) 24 (s0 24) (t0 24) = some e) : va_at D vwCl (B + adr 24, e) H := by
  rw [ct_cr0] at he
  cases he
  exact h9.2.2.1.2.2.2.1
theorem r40_25 (h9 : DX9 (GB D B cA) B (B + 1) H) (h10 : DX10 (GB D B cA) (B + 131) (B + 132) H) {e : va_E} (he : ct (GB D B cA) 25 (s0 25) (t0 25) = some e) : va_at D vwCl (B + adr 25, e) H := by
  rw [ct_cr1] at he
  cases he
  exact h9.2.2.1.2.2.2.2.1
theorem r40_26 (h9 : DX9 (GB D B cA) B (B + 1) H) (h10 : DX10 (GB D B cA) (B + 131) (B + 132) H) {e : va_E} (he : ct (GB D B cA) 26 (s0 26) (t0 26) = some e) : va_at D vwCl (B + adr 26, e) H := by
  rw [ct_cr2] at he
  cases he
  exact h9.2.2.1.2.2.2.2.2.1
theorem r40_27 (h9 : DX9 (GB D B cA) B (B + 1) H) (h10 : DX10 (GB D B cA) (B + 131) (B + 132) H) {e : va_E} (he : ct (GB D B cA) 27 (s0 27) (t0 27) = some e) : va_at D vwCl (B + adr 27, e) H := by
  rw [ct_cr3] at he
  cases he
  exact h9.2.2.1.2.2.2.2.2.2.1
theorem r40_28 (h9 : DX9 (GB D B cA) B (B + 1) H) (h10 : DX10 (GB D B cA) (B + 131) (B + 132) H) {e : va_E} (he : ct (GB D B cA) 28 (s0 28) (t0 28) = some e) : va_at D vwCl (B + adr 28, e) H := by
  rw [ct_cr4] at he
  cases he
  exact h9.2.2.1.2.2.2.2.2.2.2.1
theorem r40_29 (h9 : DX9 (GB D B cA) B (B + 1) H) (h10 : DX10 (GB D B cA) (B + 131) (B + 132) H) {e : va_E} (he : ct (GB D B cA) 29 (s0 29) (t0 29) = some e) : va_at D vwCl (B + adr 29, e) H := by
  rw [ct_pr0] at he
  cases he
  exact h9.2.2.1.2.2.2.2.2.2.2.2.1
theorem r40_30 (h9 : DX9 (GB D B cA) B (B + 1) H) (h10 : DX10 (GB D B cA) (B + 131) (B + 132) H) {e : va_E} (he : ct (GB D B cA) 30 (s0 30) (t0 30) = some e) : va_at D vwCl (B + adr 30, e) H := by
  rw [ct_pr1] at he
  cases he
  exact h9.2.2.1.2.2.2.2.2.2.2.2.2.1
theorem r40_31 (h9 : DX9 (GB D B cA) B (B + 1) H) (h10 : DX10 (GB D B cA) (B + 131) (B + 132) H) {e : va_E} (he : ct (GB D B cA) 31 (s0 31) (t0 31) = some e) : va_at D vwCl (B + adr 31, e) H := by
  rw [ct_pr2] at he
  cases he
  exact h9.2.2.1.2.2.2.2.2.2.2.2.2.2.1
theorem r40_32 (h9 : DX9 (GB D B cA) B (B + 1) H) (h10 : DX10 (GB D B cA) (B + 131) (B + 132) H) {e : va_E} (he : ct (GB D B cA) 32 (s0 32) (t0 32) = some e) : va_at D vwCl (B + adr 32, e) H := by
  rw [ct_pr3] at he
  cases he
  exact h9.2.2.1.2.2.2.2.2.2.2.2.2.2.2.1
theorem r40_33 (h9 : DX9 (GB D B cA) B (B + 1) H) (h10 : DX10 (GB D B cA) (B + 131) (B + 132) H) {e : va_E} (he : ct (GB D B cA) 33 (s0 33) (t0 33) = some e) : va_at D vwCl (B + adr 33, e) H := by
  rw [ct_pr4] at he
  cases he
  exact h9.2.2.1.2.2.2.2.2.2.2.2.2.2.2.2.1
theorem r40_34 (h9 : DX9 (GB D B cA) B (B + 1) H) (h10 : DX10 (GB D B cA) (B + 131) (B + 132) H) {e : va_E} (he : ct (GB D B cA) 34 (s0 34) (t0 34) = some e) : va_at D vwCl (B + adr 34, e) H := by
  rw [ct_pr5] at he
  cases he
  exact h9.2.2.1.2.2.2.2.2.2.2.2.2.2.2.2.2
theorem r40_35 (h9 : DX9 (GB D B cA) B (B + 1) H) (h10 : DX10 (GB D B cA) (B + 131) (B + 132) H) {e : va_E} (he : ct (GB D B cA) 35 (s0 35) (t0 35) = some e) : va_at D vwCl (B + adr 35, e) H := by
  rw [ct_model] at he
  cases he
  exact h10.1
theorem r40_36 (h9 : DX9 (GB D B cA) B (B + 1) H) (h10 : DX10 (GB D B cA) (B + 131) (B + 132) H) {e : va_E} (he : ct (GB D B cA) 36 (s0 36) (t0 36) = some e) : va_at D vwCl (B + adr 36, e) H := by
  rw [ct_m_kinds] at he
  cases he
  exact h10.2 0 (by decide)
theorem r40_37 (h9 : DX9 (GB D B cA) B (B + 1) H) (h10 : DX10 (GB D B cA) (B + 131) (B + 132) H) {e : va_E} (he : ct (GB D B cA) 37 (s0 37) (t0 37) = some e) : va_at D vwCl (B + adr 37, e) H := by
  rw [ct_m_one] at he
  cases he
  exact h10.2 1 (by decide)
theorem r40_38 (h9 : DX9 (GB D B cA) B (B + 1) H) (h10 : DX10 (GB D B cA) (B + 131) (B + 132) H) {e : va_E} (he : ct (GB D B cA) 38 (s0 38) (t0 38) = some e) : va_at D vwCl (B + adr 38, e) H := by
  rw [ct_m_two] at he
  cases he
  exact h10.2 2 (by decide)
theorem r40_39 (h9 : DX9 (GB D B cA) B (B + 1) H) (h10 : DX10 (GB D B cA) (B + 131) (B + 132) H) {e : va_E} (he : ct (GB D B cA) 39 (s0 39) (t0 39) = some e) : va_at D vwCl (B + adr 39, e) H := by
  rw [ct_m_taken] at he
  cases he
  exact h10.2 3 (by decide)
theorem r40_40 (h9 : DX9 (GB D B cA) B (B + 1) H) (h10 : DX10 (GB D B cA) (B + 131) (B + 132) H) {e : va_E} (he : ct (GB D B cA) 40 (s0 40) (t0 40) = some e) : va_at D vwCl (B + adr 40, e) H := by
  rw [ct_m_called] at he
  cases he
  exact h10.2 4 (by decide)
theorem r40_41 (h9 : DX9 (GB D B cA) B (B + 1) H) (h10 : DX10 (GB D B cA) (B + 131) (B + 132) H) {e : va_E} (he : ct (GB D B cA) 41 (s0 41) (t0 41) = some e) : va_at D vwCl (B + adr 41, e) H := by
  rw [ct_m_isOut] at he
  cases he
  exact h10.2 5 (by decide)
theorem r40_42 (h9 : DX9 (GB D B cA) B (B + 1) H) (h10 : DX10 (GB D B cA) (B + 131) (B + 132) H) {e : va_E} (he : ct (GB D B cA) 42 (s0 42) (t0 42) = some e) : va_at D vwCl (B + adr 42, e) H := by
  rw [ct_m_setting] at he
  cases he
  exact h10.2 6 (by decide)
theorem r40_43 (h9 : DX9 (GB D B cA) B (B + 1) H) (h10 : DX10 (GB D B cA) (B + 131) (B + 132) H) {e : va_E} (he : ct (GB D B cA) 43 (s0 43) (t0 43) = some e) : va_at D vwCl (B + adr 43, e) H := by
  rw [ct_m_since] at he
  cases he
  exact h10.2 7 (by decide)
theorem r40_44 (h9 : DX9 (GB D B cA) B (B + 1) H) (h10 : DX10 (GB D B cA) (B + 131) (B + 132) H) {e : va_E} (he : ct (GB D B cA) 44 (s0 44) (t0 44) = some e) : va_at D vwCl (B + adr 44, e) H := by
  rw [ct_m_suspect] at he
  cases he
  exact h10.2 8 (by decide)
theorem r40_45 (h9 : DX9 (GB D B cA) B (B + 1) H) (h10 : DX10 (GB D B cA) (B + 131) (B + 132) H) {e : va_E} (he : ct (GB D B cA) 45 (s0 45) (t0 45) = some e) : va_at D vwCl (B + adr 45, e) H := by
  rw [ct_m_stepMany] at he
  cases he
  exact h10.2 9 (by decide)
theorem r40_46 (h9 : DX9 (GB D B cA) B (B + 1) H) (h10 : DX10 (GB D B cA) (B + 131) (B + 132) H) {e : va_E} (he : ct (GB D B cA) 46 (s0 46) (t0 46) = some e) : va_at D vwCl (B + adr 46, e) H := by
  rw [ct_m_drifts] at he
  cases he
  exact h10.2 10 (by decide)
theorem r40_47 (h9 : DX9 (GB D B cA) B (B + 1) H) (h10 : DX10 (GB D B cA) (B + 131) (B + 132) H) {e : va_E} (he : ct (GB D B cA) 47 (s0 47) (t0 47) = some e) : va_at D vwCl (B + adr 47, e) H := by
  rw [ct_m_ways] at he
  cases he
  exact h10.2 11 (by decide)
theorem r40_48 (h9 : DX9 (GB D B cA) B (B + 1) H) (h10 : DX10 (GB D B cA) (B + 131) (B + 132) H) {e : va_E} (he : ct (GB D B cA) 48 (s0 48) (t0 48) = some e) : va_at D vwCl (B + adr 48, e) H := by
  rw [ct_m_there] at he
  cases he
  exact h10.2 12 (by decide)
theorem r40_49 (h9 : DX9 (GB D B cA) B (B + 1) H) (h10 : DX10 (GB D B cA) (B + 131) (B + 132) H) {e : va_E} (he : ct (GB D B cA) 49 (s0 49) (t0 49) = some e) : va_at D vwCl (B + adr 49, e) H := by
  rw [ct_m_backs] at he
  cases he
  exact h10.2 13 (by decide)
theorem r40_50 (h9 : DX9 (GB D B cA) B (B + 1) H) (h10 : DX10 (GB D B cA) (B + 131) (B + 132) H) {e : va_E} (he : ct (GB D B cA) 50 (s0 50) (t0 50) = some e) : va_at D vwCl (B + adr 50, e) H := by
  rw [ct_m_hasThere] at he
  cases he
  exact h10.2 14 (by decide)
theorem r40_51 (h9 : DX9 (GB D B cA) B (B + 1) H) (h10 : DX10 (GB D B cA) (B + 131) (B + 132) H) {e : va_E} (he : ct (GB D B cA) 51 (s0 51) (t0 51) = some e) : va_at D vwCl (B + adr 51, e) H := by
  rw [ct_m_hasBack] at he
  cases he
  exact h10.2 15 (by decide)
theorem r40_52 (h9 : DX9 (GB D B cA) B (B + 1) H) (h10 : DX10 (GB D B cA) (B + 131) (B + 132) H) {e : va_E} (he : ct (GB D B cA) 52 (s0 52) (t0 52) = some e) : va_at D vwCl (B + adr 52, e) H := by
  rw [ct_m_hasX] at he
  cases he
  exact h10.2 16 (by decide)
theorem r40_53 (h9 : DX9 (GB D B cA) B (B + 1) H) (h10 : DX10 (GB D B cA) (B + 131) (B + 132) H) {e : va_E} (he : ct (GB D B cA) 53 (s0 53) (t0 53) = some e) : va_at D vwCl (B + adr 53, e) H := by
  rw [ct_m_hasF] at he
  cases he
  exact h10.2 17 (by decide)
theorem r40_54 (h9 : DX9 (GB D B cA) B (B + 1) H) (h10 : DX10 (GB D B cA) (B + 131) (B + 132) H) {e : va_E} (he : ct (GB D B cA) 54 (s0 54) (t0 54) = some e) : va_at D vwCl (B + adr 54, e) H := by
  rw [ct_m_xs] at he
  cases he
  exact h10.2 18 (by decide)
theorem r40_55 (h9 : DX9 (GB D B cA) B (B + 1) H) (h10 : DX10 (GB D B cA) (B + 131) (B + 132) H) {e : va_E} (he : ct (GB D B cA) 55 (s0 55) (t0 55) = some e) : va_at D vwCl (B + adr 55, e) H := by
  rw [ct_m_fs] at he
  cases he
  exact h10.2 19 (by decide)
theorem r40_56 (h9 : DX9 (GB D B cA) B (B + 1) H) (h10 : DX10 (GB D B cA) (B + 131) (B + 132) H) {e : va_E} (he : ct (GB D B cA) 56 (s0 56) (t0 56) = some e) : va_at D vwCl (B + adr 56, e) H := by
  rw [ct_m_ms] at he
  cases he
  exact h10.2 20 (by decide)
theorem r40_57 (h9 : DX9 (GB D B cA) B (B + 1) H) (h10 : DX10 (GB D B cA) (B + 131) (B + 132) H) {e : va_E} (he : ct (GB D B cA) 57 (s0 57) (t0 57) = some e) : va_at D vwCl (B + adr 57, e) H := by
  rw [ct_m_ws] at he
  cases he
  exact h10.2 21 (by decide)
theorem r40_58 (h9 : DX9 (GB D B cA) B (B + 1) H) (h10 : DX10 (GB D B cA) (B + 131) (B + 132) H) {e : va_E} (he : ct (GB D B cA) 58 (s0 58) (t0 58) = some e) : va_at D vwCl (B + adr 58, e) H := by
  rw [ct_m_ds] at he
  cases he
  exact h10.2 22 (by decide)
theorem r40_59 (h9 : DX9 (GB D B cA) B (B + 1) H) (h10 : DX10 (GB D B cA) (B + 131) (B + 132) H) {e : va_E} (he : ct (GB D B cA) 59 (s0 59) (t0 59) = some e) : va_at D vwCl (B + adr 59, e) H := by
  rw [ct_m_roots] at he
  cases he
  exact h10.2 23 (by decide)
theorem r40_60 (h9 : DX9 (GB D B cA) B (B + 1) H) (h10 : DX10 (GB D B cA) (B + 131) (B + 132) H) {e : va_E} (he : ct (GB D B cA) 60 (s0 60) (t0 60) = some e) : va_at D vwCl (B + adr 60, e) H := by
  rw [ct_m_presents] at he
  cases he
  exact h10.2 24 (by decide)
theorem r40_61 (h9 : DX9 (GB D B cA) B (B + 1) H) (h10 : DX10 (GB D B cA) (B + 131) (B + 132) H) {e : va_E} (he : ct (GB D B cA) 61 (s0 61) (t0 61) = some e) : va_at D vwCl (B + adr 61, e) H := by
  rw [ct_m_rests] at he
  cases he
  exact h10.2 25 (by decide)
theorem r40_62 (h9 : DX9 (GB D B cA) B (B + 1) H) (h10 : DX10 (GB D B cA) (B + 131) (B + 132) H) {e : va_E} (he : ct (GB D B cA) 62 (s0 62) (t0 62) = some e) : va_at D vwCl (B + adr 62, e) H := by
  rw [ct_m_offs] at he
  cases he
  exact h10.2 26 (by decide)
theorem r40_63 (h9 : DX9 (GB D B cA) B (B + 1) H) (h10 : DX10 (GB D B cA) (B + 131) (B + 132) H) {e : va_E} (he : ct (GB D B cA) 63 (s0 63) (t0 63) = some e) : va_at D vwCl (B + adr 63, e) H := by
  rw [ct_m_parts] at he
  cases he
  exact h10.2 27 (by decide)
theorem r40_64 (h9 : DX9 (GB D B cA) B (B + 1) H) (h10 : DX10 (GB D B cA) (B + 131) (B + 132) H) {e : va_E} (he : ct (GB D B cA) 64 (s0 64) (t0 64) = some e) : va_at D vwCl (B + adr 64, e) H := by
  rw [ct_m_sums] at he
  cases he
  exact h10.2 28 (by decide)
theorem r40_65 (h9 : DX9 (GB D B cA) B (B + 1) H) (h10 : DX10 (GB D B cA) (B + 131) (B + 132) H) {e : va_E} (he : ct (GB D B cA) 65 (s0 65) (t0 65) = some e) : va_at D vwCl (B + adr 65, e) H := by
  rw [ct_m_stepHour] at he
  cases he
  exact h10.2 29 (by decide)
theorem r40_66 (h9 : DX9 (GB D B cA) B (B + 1) H) (h10 : DX10 (GB D B cA) (B + 131) (B + 132) H) {e : va_E} (he : ct (GB D B cA) 66 (s0 66) (t0 66) = some e) : va_at D vwCl (B + adr 66, e) H := by
  rw [ct_m_stepPlace] at he
  cases he
  exact h10.2 30 (by decide)
theorem r40_67 (h9 : DX9 (GB D B cA) B (B + 1) H) (h10 : DX10 (GB D B cA) (B + 131) (B + 132) H) {e : va_E} (he : ct (GB D B cA) 67 (s0 67) (t0 67) = some e) : va_at D vwCl (B + adr 67, e) H := by
  rw [ct_m_stepMissed] at he
  cases he
  exact h10.2 31 (by decide)
theorem r40_68 (h9 : DX9 (GB D B cA) B (B + 1) H) (h10 : DX10 (GB D B cA) (B + 131) (B + 132) H) {e : va_E} (he : ct (GB D B cA) 68 (s0 68) (t0 68) = some e) : va_at D vwCl (B + adr 68, e) H := by
  rw [ct_m_far] at he
  cases he
  exact h10.2 32 (by decide)
theorem r40_69 (h9 : DX9 (GB D B cA) B (B + 1) H) (h10 : DX10 (GB D B cA) (B + 131) (B + 132) H) {e : va_E} (he : ct (GB D B cA) 69 (s0 69) (t0 69) = some e) : va_at D vwCl (B + adr 69, e) H := by
  rw [ct_m_going] at he
  cases he
  exact h10.2 33 (by decide)
theorem r40_70 (h9 : DX9 (GB D B cA) B (B + 1) H) (h10 : DX10 (GB D B cA) (B + 131) (B + 132) H) {e : va_E} (he : ct (GB D B cA) 70 (s0 70) (t0 70) = some e) : va_at D vwCl (B + adr 70, e) H := by
  rw [ct_m_gone] at he
  cases he
  exact h10.2 34 (by decide)
theorem r40_71 (h9 : DX9 (GB D B cA) B (B + 1) H) (h10 : DX10 (GB D B cA) (B + 131) (B + 132) H) {e : va_E} (he : ct (GB D B cA) 71 (s0 71) (t0 71) = some e) : va_at D vwCl (B + adr 71, e) H := by
  rw [ct_m_present] at he
  cases he
  exact h10.2 35 (by decide)
theorem r40_all (h9 : DX9 (GB D B cA) B (B + 1) H) (h10 : DX10 (GB D B cA) (B + 131) (B + 132) H) : RepH (GB D B cA) s0 t0 H := by
  intro k e he
  have hk : k < 176 := ct_lt he
  show va_at D vwCl (B + adr k, e) H
  by_cases h80 : k < 80
  · match k, h80, he with
    | 0, _, he => exact r40_0 h9 h10 he
    | 1, _, he => exact r40_1 h9 h10 he
    | 2, _, he => exact r40_2 h9 h10 he
    | 3, _, he => exact r40_3 h9 h10 he
    | 4, _, he => exact r40_4 h9 h10 he
    | 5, _, he => exact r40_5 h9 h10 he
    | 6, _, he => exact r40_6 h9 h10 he
    | 7, _, he => exact r40_7 h9 h10 he
    | 8, _, he => exact r40_8 h9 h10 he
    | 9, _, he => exact r40_9 h9 h10 he
    | 10, _, he => exact r40_10 h9 h10 he
    | 11, _, he => exact r40_11 h9 h10 he
    | 12, _, he => exact r40_12 h9 h10 he
    | 13, _, he => exact r40_13 h9 h10 he
    | 14, _, he => exact r40_14 h9 h10 he
    | 15, _, he => exact r40_15 h9 h10 he
    | 16, _, he => exact r40_16 h9 h10 he
    | 17, _, he => exact r40_17 h9 h10 he
    | 18, _, he => exact r40_18 h9 h10 he
    | 19, _, he => exact r40_19 h9 h10 he
    | 20, _, he => exact r40_20 h9 h10 he
    | 21, _, he => exact r40_21 h9 h10 he
    | 22, _, he => exact r40_22 h9 h10 he
    | 23, _, he => exact r40_23 h9 h10 he
    | 24, _, he => exact r40_24 h9 h10 he
    | 25, _, he => exact r40_25 h9 h10 he
    | 26, _, he => exact r40_26 h9 h10 he
    | 27, _, he => exact r40_27 h9 h10 he
    | 28, _, he => exact r40_28 h9 h10 he
    | 29, _, he => exact r40_29 h9 h10 he
    | 30, _, he => exact r40_30 h9 h10 he
    | 31, _, he => exact r40_31 h9 h10 he
    | 32, _, he => exact r40_32 h9 h10 he
    | 33, _, he => exact r40_33 h9 h10 he
    | 34, _, he => exact r40_34 h9 h10 he
    | 35, _, he => exact r40_35 h9 h10 he
    | 36, _, he => exact r40_36 h9 h10 he
    | 37, _, he => exact r40_37 h9 h10 he
    | 38, _, he => exact r40_38 h9 h10 he
    | 39, _, he => exact r40_39 h9 h10 he
    | 40, _, he => exact r40_40 h9 h10 he
    | 41, _, he => exact r40_41 h9 h10 he
    | 42, _, he => exact r40_42 h9 h10 he
    | 43, _, he => exact r40_43 h9 h10 he
    | 44, _, he => exact r40_44 h9 h10 he
    | 45, _, he => exact r40_45 h9 h10 he
    | 46, _, he => exact r40_46 h9 h10 he
    | 47, _, he => exact r40_47 h9 h10 he
    | 48, _, he => exact r40_48 h9 h10 he
    | 49, _, he => exact r40_49 h9 h10 he
    | 50, _, he => exact r40_50 h9 h10 he
    | 51, _, he => exact r40_51 h9 h10 he
    | 52, _, he => exact r40_52 h9 h10 he
    | 53, _, he => exact r40_53 h9 h10 he
    | 54, _, he => exact r40_54 h9 h10 he
    | 55, _, he => exact r40_55 h9 h10 he
    | 56, _, he => exact r40_56 h9 h10 he
    | 57, _, he => exact r40_57 h9 h10 he
    | 58, _, he => exact r40_58 h9 h10 he
    | 59, _, he => exact r40_59 h9 h10 he
    | 60, _, he => exact r40_60 h9 h10 he
    | 61, _, he => exact r40_61 h9 h10 he
    | 62, _, he => exact r40_62 h9 h10 he
    | 63, _, he => exact r40_63 h9 h10 he
    | 64, _, he => exact r40_64 h9 h10 he
    | 65, _, he => exact r40_65 h9 h10 he
    | 66, _, he => exact r40_66 h9 h10 he
    | 67, _, he => exact r40_67 h9 h10 he
    | 68, _, he => exact r40_68 h9 h10 he
    | 69, _, he => exact r40_69 h9 h10 he
    | 70, _, he => exact r40_70 h9 h10 he
    | 71, _, he => exact r40_71 h9 h10 he
    | k + 72, h80, he =>
      exfalso
      have e1 : ct (GB D B cA) (k + 72) (s0 (k + 72)) (t0 (k + 72)) = (ct0 (GB D B cA) (s0 (k + 72)) (t0 (k + 72)))[k + 72]? := by
        unfold ct
        rw [if_pos h80]
      rw [e1] at he
      have h2 := (List.getElem?_eq_some_iff.mp he).1
      have h3 : (ct0 (GB D B cA) (s0 (k + 72)) (t0 (k + 72))).length = 72 := rfl
      omega
  · by_cases h104 : k < 104
    · obtain ⟨p, rfl⟩ : ∃ p, k = 80 + p := ⟨k - 80, by omega⟩
      have hp : p < 24 := by omega
      rw [ct_clock hp, s0_clock hp] at he
      cases he
      have h2 := (h9.2.1.2.2.2.2 p hp).1
      rw [show B + 1 + 1 + (3 + 4 * p) = B + (5 + 4 * p) by omega] at h2
      rw [adr_clock hp]
      exact h2
    · by_cases h128 : k < 128
      · obtain ⟨p, rfl⟩ : ∃ p, k = 104 + p := ⟨k - 104, by omega⟩
        have hp : p < 24 := by omega
        rw [ct_link hp, s0_link hp] at he
        cases he
        have h2 := (h9.2.1.2.2.2.2 p hp).2.1
        have e1 : (GB D B cA).2.1 (128 + p) = B + 1 + 1 + (5 + 4 * p) + 0 := by show B + adr (128 + p) = _; rw [adr_there hp]; omega
        have e2 : (GB D B cA).2.1 (152 + p) = B + 1 + 1 + (5 + 4 * p) + 1 := by show B + adr (152 + p) = _; rw [adr_back hp]; omega
        have e3 : B + 1 + 1 + (4 + 4 * p) = B + adr (104 + p) := by rw [adr_link hp]; omega
        rw [e1, e2, ← e3]
        exact h2
      · by_cases h152 : k < 152
        · obtain ⟨p, rfl⟩ : ∃ p, k = 128 + p := ⟨k - 128, by omega⟩
          have hp : p < 24 := by omega
          rw [ct_there hp, s0_row (by omega)] at he
          cases he
          have h2 := (h9.2.1.2.2.2.2 p hp).2.2.1
          rw [show B + 1 + 1 + (5 + 4 * p) + 0 = B + (7 + 4 * p) by omega] at h2
          rw [adr_there hp]
          exact h2
        · obtain ⟨p, rfl⟩ : ∃ p, k = 152 + p := ⟨k - 152, by omega⟩
          have hp : p < 24 := by omega
          rw [ct_back hp, s0_row (by omega)] at he
          cases he
          have h2 := (h9.2.1.2.2.2.2 p hp).2.2.2
          rw [show B + 1 + 1 + (5 + 4 * p) + 1 = B + (8 + 4 * p) by omega] at h2
          rw [adr_back hp]
          exact h2
end R40
