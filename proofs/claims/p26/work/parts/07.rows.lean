section ROWS7
variable {p : Program} {l : Launch} {e : Env} {R : Room} {s : State} {m : MethodId} {args : Array Value} {below : List Frame} {meth : Method} {c : Code} {H : Heap} {locs : List Loc} {cells slots : Nat} {Q : State → Prop}
variable {cc : ByteArray} {nL : Nat} {own : String} {ret : Option FieldType} {pc : Nat} {ls : Array Slot} {rest : List Value} {G : Gx} {A : Nat → Prop} {σ : SI} {τ : SL} {H0 : Heap} {st0 : List Value}
theorem i32_ext {x y : Int32} (h : x.toInt = y.toInt) : x = y := Int32.toInt_inj.mp h
theorem i32_lo (x : Int32) : -2147483648 ≤ x.toInt := Int32.le_toInt x
theorem i32_hi (x : Int32) : x.toInt < 2147483648 := Int32.toInt_lt x
theorem i64_lo (x : Int64) : -9223372036854775808 ≤ x.toInt := Int64.le_toInt x
theorem i64_hi (x : Int64) : x.toInt < 9223372036854775808 := Int64.toInt_lt x
theorem bm32 {a : Int} (h1 : -2147483648 ≤ a) (h2 : a < 2147483648) : a.bmod 4294967296 = a := by
  rw [Int.bmod_def]
  omega
theorem bm64 {a : Int} (h1 : -9223372036854775808 ≤ a) (h2 : a < 9223372036854775808) : a.bmod 18446744073709551616 = a := by
  rw [Int.bmod_def]
  omega
theorem addI {x y : Int32} {a b : Int} (hx : x.toInt = a) (hy : y.toInt = b) (h1 : -2147483648 ≤ a + b) (h2 : a + b < 2147483648) : (x + y).toInt = a + b := by
  rw [Int32.toInt_add, hx, hy]
  exact bm32 h1 h2
theorem subI {x y : Int32} {a b : Int} (hx : x.toInt = a) (hy : y.toInt = b) (h1 : -2147483648 ≤ a - b) (h2 : a - b < 2147483648) : (x - y).toInt = a - b := by
  rw [Int32.toInt_sub, hx, hy]
  exact bm32 h1 h2
theorem mulI {x y : Int32} {a b : Int} (hx : x.toInt = a) (hy : y.toInt = b) (h1 : -2147483648 ≤ a * b) (h2 : a * b < 2147483648) : (x * y).toInt = a * b := by
  rw [Int32.toInt_mul, hx, hy]
  exact bm32 h1 h2
theorem negI {x : Int32} {a : Int} (hx : x.toInt = a) (h1 : -2147483648 < a) : (-x).toInt = -a := by
  have h2 := i32_hi x
  rw [Int32.toInt_neg, hx]
  exact bm32 (by omega) (by omega)
theorem addL {x y : Int64} {a b : Int} (hx : x.toInt = a) (hy : y.toInt = b) (h1 : -9223372036854775808 ≤ a + b) (h2 : a + b < 9223372036854775808) : (x + y).toInt = a + b := by
  rw [Int64.toInt_add, hx, hy]
  exact bm64 h1 h2
theorem subL {x y : Int64} {a b : Int} (hx : x.toInt = a) (hy : y.toInt = b) (h1 : -9223372036854775808 ≤ a - b) (h2 : a - b < 9223372036854775808) : (x - y).toInt = a - b := by
  rw [Int64.toInt_sub, hx, hy]
  exact bm64 h1 h2
theorem mulL {x y : Int64} {a b : Int} (hx : x.toInt = a) (hy : y.toInt = b) (h1 : -9223372036854775808 ≤ a * b) (h2 : a * b < 9223372036854775808) : (x * y).toInt = a * b := by
  rw [Int64.toInt_mul, hx, hy]
  exact bm64 h1 h2
theorem negL {x : Int64} {a : Int} (hx : x.toInt = a) (h1 : -9223372036854775808 < a) : (-x).toInt = -a := by
  have h2 := i64_hi x
  rw [Int64.toInt_neg, hx]
  exact bm64 (by omega) (by omega)
theorem i2lI {x : Int32} {a : Int} (hx : x.toInt = a) : x.toInt64.toInt = a := by rw [Int32.toInt_toInt64, hx]
theorem l2iI {x : Int64} {a : Int} (hx : x.toInt = a) (h1 : -2147483648 ≤ a) (h2 : a < 2147483648) : x.toInt32.toInt = a := by
  rw [Int64.toInt_toInt32, hx]
  exact bm32 h1 h2
theorem vin {i : Int32} {n : Nat} {t : Int} (h : i.toInt = t) (h1 : 0 ≤ t) (h2 : t < n) : vp_in i n := vp_in_iff.mpr ⟨by rw [h]; exact h1, by rw [h]; exact h2⟩
theorem clampOf {i : Int32} {t : Int} (h : i.toInt = t) : i.toNatClampNeg = t.toNat := by rw [← h]; rfl
theorem nI_T (n : Nat) (h : n < 2147483648) : (nI n).toInt = (n : Int) := nI_toInt h

theorem bi_eq (hexec : p.tables.exec = Jvm.exec) (hb : c.code = cc) {x y : Int32} {a b : Int} {off : Int} {tgt : Nat} (hx : x.toInt = a) (hy : y.toInt = b) (hdg : decode cc pc = .ok (.if_icmp .eq off, 3)) (ht : (pc : Int) + off = (tgt : Int))
    (kt : a = b → W p l e R s m args below meth c H locs cells slots Q (F0 m tgt ls rest)) (kf : a ≠ b → W p l e R s m args below meth c H locs cells slots Q (F0 m (pc + 3) ls rest)) : W p l e R s m args below meth c H locs cells slots Q (F0 m pc ls (.int y :: .int x :: rest)) := by
  subst hx; subst hy
  exact lv_icmp_eq hexec hb hdg ht (fun h => kt (by rw [h])) (fun h => kf (fun q => h (Int32.toInt_inj.mp q)))

theorem bz_eq (hexec : p.tables.exec = Jvm.exec) (hb : c.code = cc) {x : Int32} {a b : Int} {off : Int} {tgt : Nat} (hx : x.toInt = a) (hy : b = 0) (hdg : decode cc pc = .ok (.ifCond .eq off, 3)) (ht : (pc : Int) + off = (tgt : Int))
    (kt : a = b → W p l e R s m args below meth c H locs cells slots Q (F0 m tgt ls rest)) (kf : a ≠ b → W p l e R s m args below meth c H locs cells slots Q (F0 m (pc + 3) ls rest)) : W p l e R s m args below meth c H locs cells slots Q (F0 m pc ls (.int x :: rest)) := by
  subst hx; subst hy; rw [show (0 : Int) = (0 : Int32).toInt from rfl] at kt kf
  exact lv_if_eq hexec hb hdg ht (fun h => kt (by rw [h])) (fun h => kf (fun q => h (Int32.toInt_inj.mp q)))

theorem bi_ne (hexec : p.tables.exec = Jvm.exec) (hb : c.code = cc) {x y : Int32} {a b : Int} {off : Int} {tgt : Nat} (hx : x.toInt = a) (hy : y.toInt = b) (hdg : decode cc pc = .ok (.if_icmp .ne off, 3)) (ht : (pc : Int) + off = (tgt : Int))
    (kt : a ≠ b → W p l e R s m args below meth c H locs cells slots Q (F0 m tgt ls rest)) (kf : a = b → W p l e R s m args below meth c H locs cells slots Q (F0 m (pc + 3) ls rest)) : W p l e R s m args below meth c H locs cells slots Q (F0 m pc ls (.int y :: .int x :: rest)) := by
  subst hx; subst hy
  exact lv_icmp_ne hexec hb hdg ht (fun h => kt (fun q => h (Int32.toInt_inj.mp q))) (fun h => kf (by rw [h]))

theorem bz_ne (hexec : p.tables.exec = Jvm.exec) (hb : c.code = cc) {x : Int32} {a b : Int} {off : Int} {tgt : Nat} (hx : x.toInt = a) (hy : b = 0) (hdg : decode cc pc = .ok (.ifCond .ne off, 3)) (ht : (pc : Int) + off = (tgt : Int))
    (kt : a ≠ b → W p l e R s m args below meth c H locs cells slots Q (F0 m tgt ls rest)) (kf : a = b → W p l e R s m args below meth c H locs cells slots Q (F0 m (pc + 3) ls rest)) : W p l e R s m args below meth c H locs cells slots Q (F0 m pc ls (.int x :: rest)) := by
  subst hx; subst hy; rw [show (0 : Int) = (0 : Int32).toInt from rfl] at kt kf
  exact lv_if_ne hexec hb hdg ht (fun h => kt (fun q => h (Int32.toInt_inj.mp q))) (fun h => kf (by rw [h]))

theorem bi_lt (hexec : p.tables.exec = Jvm.exec) (hb : c.code = cc) {x y : Int32} {a b : Int} {off : Int} {tgt : Nat} (hx : x.toInt = a) (hy : y.toInt = b) (hdg : decode cc pc = .ok (.if_icmp .lt off, 3)) (ht : (pc : Int) + off = (tgt : Int))
    (kt : a < b → W p l e R s m args below meth c H locs cells slots Q (F0 m tgt ls rest)) (kf : b ≤ a → W p l e R s m args below meth c H locs cells slots Q (F0 m (pc + 3) ls rest)) : W p l e R s m args below meth c H locs cells slots Q (F0 m pc ls (.int y :: .int x :: rest)) := by
  subst hx; subst hy
  exact lv_icmp_lt hexec hb hdg ht (fun h => kt (Int32.lt_iff_toInt_lt.mp h)) (fun h => kf (Int.not_lt.mp (fun q => h (Int32.lt_iff_toInt_lt.mpr q))))

theorem bz_lt (hexec : p.tables.exec = Jvm.exec) (hb : c.code = cc) {x : Int32} {a b : Int} {off : Int} {tgt : Nat} (hx : x.toInt = a) (hy : b = 0) (hdg : decode cc pc = .ok (.ifCond .lt off, 3)) (ht : (pc : Int) + off = (tgt : Int))
    (kt : a < b → W p l e R s m args below meth c H locs cells slots Q (F0 m tgt ls rest)) (kf : b ≤ a → W p l e R s m args below meth c H locs cells slots Q (F0 m (pc + 3) ls rest)) : W p l e R s m args below meth c H locs cells slots Q (F0 m pc ls (.int x :: rest)) := by
  subst hx; subst hy; rw [show (0 : Int) = (0 : Int32).toInt from rfl] at kt kf
  exact lv_if_lt hexec hb hdg ht (fun h => kt (Int32.lt_iff_toInt_lt.mp h)) (fun h => kf (Int.not_lt.mp (fun q => h (Int32.lt_iff_toInt_lt.mpr q))))

theorem bi_ge (hexec : p.tables.exec = Jvm.exec) (hb : c.code = cc) {x y : Int32} {a b : Int} {off : Int} {tgt : Nat} (hx : x.toInt = a) (hy : y.toInt = b) (hdg : decode cc pc = .ok (.if_icmp .ge off, 3)) (ht : (pc : Int) + off = (tgt : Int))
    (kt : b ≤ a → W p l e R s m args below meth c H locs cells slots Q (F0 m tgt ls rest)) (kf : a < b → W p l e R s m args below meth c H locs cells slots Q (F0 m (pc + 3) ls rest)) : W p l e R s m args below meth c H locs cells slots Q (F0 m pc ls (.int y :: .int x :: rest)) := by
  subst hx; subst hy
  exact lv_icmp_ge hexec hb hdg ht (fun h => kt (Int32.le_iff_toInt_le.mp h)) (fun h => kf (Int.not_le.mp (fun q => h (Int32.le_iff_toInt_le.mpr q))))

theorem bz_ge (hexec : p.tables.exec = Jvm.exec) (hb : c.code = cc) {x : Int32} {a b : Int} {off : Int} {tgt : Nat} (hx : x.toInt = a) (hy : b = 0) (hdg : decode cc pc = .ok (.ifCond .ge off, 3)) (ht : (pc : Int) + off = (tgt : Int))
    (kt : b ≤ a → W p l e R s m args below meth c H locs cells slots Q (F0 m tgt ls rest)) (kf : a < b → W p l e R s m args below meth c H locs cells slots Q (F0 m (pc + 3) ls rest)) : W p l e R s m args below meth c H locs cells slots Q (F0 m pc ls (.int x :: rest)) := by
  subst hx; subst hy; rw [show (0 : Int) = (0 : Int32).toInt from rfl] at kt kf
  exact lv_if_ge hexec hb hdg ht (fun h => kt (Int32.le_iff_toInt_le.mp h)) (fun h => kf (Int.not_le.mp (fun q => h (Int32.le_iff_toInt_le.mpr q))))

theorem bi_gt (hexec : p.tables.exec = Jvm.exec) (hb : c.code = cc) {x y : Int32} {a b : Int} {off : Int} {tgt : Nat} (hx : x.toInt = a) (hy : y.toInt = b) (hdg : decode cc pc = .ok (.if_icmp .gt off, 3)) (ht : (pc : Int) + off = (tgt : Int))
    (kt : b < a → W p l e R s m args below meth c H locs cells slots Q (F0 m tgt ls rest)) (kf : a ≤ b → W p l e R s m args below meth c H locs cells slots Q (F0 m (pc + 3) ls rest)) : W p l e R s m args below meth c H locs cells slots Q (F0 m pc ls (.int y :: .int x :: rest)) := by
  subst hx; subst hy
  exact lv_icmp_gt hexec hb hdg ht (fun h => kt (Int32.lt_iff_toInt_lt.mp h)) (fun h => kf (Int.not_lt.mp (fun q => h (Int32.lt_iff_toInt_lt.mpr q))))

theorem bz_gt (hexec : p.tables.exec = Jvm.exec) (hb : c.code = cc) {x : Int32} {a b : Int} {off : Int} {tgt : Nat} (hx : x.toInt = a) (hy : b = 0) (hdg : decode cc pc = .ok (.ifCond .gt off, 3)) (ht : (pc : Int) + off = (tgt : Int))
    (kt : b < a → W p l e R s m args below meth c H locs cells slots Q (F0 m tgt ls rest)) (kf : a ≤ b → W p l e R s m args below meth c H locs cells slots Q (F0 m (pc + 3) ls rest)) : W p l e R s m args below meth c H locs cells slots Q (F0 m pc ls (.int x :: rest)) := by
  subst hx; subst hy; rw [show (0 : Int) = (0 : Int32).toInt from rfl] at kt kf
  exact lv_if_gt hexec hb hdg ht (fun h => kt (Int32.lt_iff_toInt_lt.mp h)) (fun h => kf (Int.not_lt.mp (fun q => h (Int32.lt_iff_toInt_lt.mpr q))))

theorem bi_le (hexec : p.tables.exec = Jvm.exec) (hb : c.code = cc) {x y : Int32} {a b : Int} {off : Int} {tgt : Nat} (hx : x.toInt = a) (hy : y.toInt = b) (hdg : decode cc pc = .ok (.if_icmp .le off, 3)) (ht : (pc : Int) + off = (tgt : Int))
    (kt : a ≤ b → W p l e R s m args below meth c H locs cells slots Q (F0 m tgt ls rest)) (kf : b < a → W p l e R s m args below meth c H locs cells slots Q (F0 m (pc + 3) ls rest)) : W p l e R s m args below meth c H locs cells slots Q (F0 m pc ls (.int y :: .int x :: rest)) := by
  subst hx; subst hy
  exact lv_icmp_le hexec hb hdg ht (fun h => kt (Int32.le_iff_toInt_le.mp h)) (fun h => kf (Int.not_le.mp (fun q => h (Int32.le_iff_toInt_le.mpr q))))

theorem bz_le (hexec : p.tables.exec = Jvm.exec) (hb : c.code = cc) {x : Int32} {a b : Int} {off : Int} {tgt : Nat} (hx : x.toInt = a) (hy : b = 0) (hdg : decode cc pc = .ok (.ifCond .le off, 3)) (ht : (pc : Int) + off = (tgt : Int))
    (kt : a ≤ b → W p l e R s m args below meth c H locs cells slots Q (F0 m tgt ls rest)) (kf : b < a → W p l e R s m args below meth c H locs cells slots Q (F0 m (pc + 3) ls rest)) : W p l e R s m args below meth c H locs cells slots Q (F0 m pc ls (.int x :: rest)) := by
  subst hx; subst hy; rw [show (0 : Int) = (0 : Int32).toInt from rfl] at kt kf
  exact lv_if_le hexec hb hdg ht (fun h => kt (Int32.le_iff_toInt_le.mp h)) (fun h => kf (Int.not_le.mp (fun q => h (Int32.le_iff_toInt_le.mpr q))))

theorem cmp_lt (x y : Int64) : (lg_cmp x y).toInt < 0 ↔ x.toInt < y.toInt := by
  unfold lg_cmp
  by_cases h1 : x > y
  · rw [if_pos h1]
    have h2 := Int64.lt_iff_toInt_lt.mp h1
    exact ⟨fun q => absurd q (by decide), fun q => by omega⟩
  · rw [if_neg h1]
    have h2 : ¬ y.toInt < x.toInt := fun q => h1 (Int64.lt_iff_toInt_lt.mpr q)
    by_cases h3 : x = y
    · rw [if_pos h3]
      subst h3
      exact ⟨fun q => absurd q (by decide), fun q => by omega⟩
    · rw [if_neg h3]
      have h4 : x.toInt ≠ y.toInt := fun q => h3 (Int64.toInt_inj.mp q)
      exact ⟨fun _ => by omega, fun _ => by decide⟩
theorem cmp_gt (x y : Int64) : 0 < (lg_cmp x y).toInt ↔ y.toInt < x.toInt := by
  unfold lg_cmp
  by_cases h1 : x > y
  · rw [if_pos h1]
    have h2 := Int64.lt_iff_toInt_lt.mp h1
    exact ⟨fun _ => h2, fun _ => by decide⟩
  · rw [if_neg h1]
    have h2 : ¬ y.toInt < x.toInt := fun q => h1 (Int64.lt_iff_toInt_lt.mpr q)
    by_cases h3 : x = y
    · rw [if_pos h3]
      exact ⟨fun q => absurd q (by decide), fun q => by omega⟩
    · rw [if_neg h3]
      exact ⟨fun q => absurd q (by decide), fun q => by omega⟩
theorem cmp_eq (x y : Int64) : (lg_cmp x y).toInt = 0 ↔ x.toInt = y.toInt := by
  have h1 := cmp_lt x y
  have h2 := cmp_gt x y
  omega

theorem bl_eq (hexec : p.tables.exec = Jvm.exec) (hb : c.code = cc) {x y : Int64} {a b : Int} {off : Int} {tgt : Nat} (hx : x.toInt = a) (hy : y.toInt = b) (hd1 : decode cc pc = .ok (.lcmp, 1)) (hdg : decode cc (pc + 1) = .ok (.ifCond .eq off, 3)) (ht : ((pc + 1 : Nat) : Int) + off = (tgt : Int))
    (kt : a = b → W p l e R s m args below meth c H locs cells slots Q (F0 m tgt ls rest)) (kf : a ≠ b → W p l e R s m args below meth c H locs cells slots Q (F0 m (pc + 4) ls rest)) : W p l e R s m args below meth c H locs cells slots Q (F0 m pc ls (.long y :: .long x :: rest)) := by
  subst hx
  subst hy
  refine W.lcmp hexec hb hd1 ?_
  have h1 := cmp_lt x y
  have h2 := cmp_gt x y
  have h3 := cmp_eq x y
  refine bz_eq hexec hb rfl rfl hdg ht (fun h => kt ?_) (fun h => kf ?_) <;> omega

theorem bl_ne (hexec : p.tables.exec = Jvm.exec) (hb : c.code = cc) {x y : Int64} {a b : Int} {off : Int} {tgt : Nat} (hx : x.toInt = a) (hy : y.toInt = b) (hd1 : decode cc pc = .ok (.lcmp, 1)) (hdg : decode cc (pc + 1) = .ok (.ifCond .ne off, 3)) (ht : ((pc + 1 : Nat) : Int) + off = (tgt : Int))
    (kt : a ≠ b → W p l e R s m args below meth c H locs cells slots Q (F0 m tgt ls rest)) (kf : a = b → W p l e R s m args below meth c H locs cells slots Q (F0 m (pc + 4) ls rest)) : W p l e R s m args below meth c H locs cells slots Q (F0 m pc ls (.long y :: .long x :: rest)) := by
  subst hx
  subst hy
  refine W.lcmp hexec hb hd1 ?_
  have h1 := cmp_lt x y
  have h2 := cmp_gt x y
  have h3 := cmp_eq x y
  refine bz_ne hexec hb rfl rfl hdg ht (fun h => kt ?_) (fun h => kf ?_) <;> omega

theorem bl_lt (hexec : p.tables.exec = Jvm.exec) (hb : c.code = cc) {x y : Int64} {a b : Int} {off : Int} {tgt : Nat} (hx : x.toInt = a) (hy : y.toInt = b) (hd1 : decode cc pc = .ok (.lcmp, 1)) (hdg : decode cc (pc + 1) = .ok (.ifCond .lt off, 3)) (ht : ((pc + 1 : Nat) : Int) + off = (tgt : Int))
    (kt : a < b → W p l e R s m args below meth c H locs cells slots Q (F0 m tgt ls rest)) (kf : b ≤ a → W p l e R s m args below meth c H locs cells slots Q (F0 m (pc + 4) ls rest)) : W p l e R s m args below meth c H locs cells slots Q (F0 m pc ls (.long y :: .long x :: rest)) := by
  subst hx
  subst hy
  refine W.lcmp hexec hb hd1 ?_
  have h1 := cmp_lt x y
  have h2 := cmp_gt x y
  have h3 := cmp_eq x y
  refine bz_lt hexec hb rfl rfl hdg ht (fun h => kt ?_) (fun h => kf ?_) <;> omega

theorem bl_ge (hexec : p.tables.exec = Jvm.exec) (hb : c.code = cc) {x y : Int64} {a b : Int} {off : Int} {tgt : Nat} (hx : x.toInt = a) (hy : y.toInt = b) (hd1 : decode cc pc = .ok (.lcmp, 1)) (hdg : decode cc (pc + 1) = .ok (.ifCond .ge off, 3)) (ht : ((pc + 1 : Nat) : Int) + off = (tgt : Int))
    (kt : b ≤ a → W p l e R s m args below meth c H locs cells slots Q (F0 m tgt ls rest)) (kf : a < b → W p l e R s m args below meth c H locs cells slots Q (F0 m (pc + 4) ls rest)) : W p l e R s m args below meth c H locs cells slots Q (F0 m pc ls (.long y :: .long x :: rest)) := by
  subst hx
  subst hy
  refine W.lcmp hexec hb hd1 ?_
  have h1 := cmp_lt x y
  have h2 := cmp_gt x y
  have h3 := cmp_eq x y
  refine bz_ge hexec hb rfl rfl hdg ht (fun h => kt ?_) (fun h => kf ?_) <;> omega

theorem bl_gt (hexec : p.tables.exec = Jvm.exec) (hb : c.code = cc) {x y : Int64} {a b : Int} {off : Int} {tgt : Nat} (hx : x.toInt = a) (hy : y.toInt = b) (hd1 : decode cc pc = .ok (.lcmp, 1)) (hdg : decode cc (pc + 1) = .ok (.ifCond .gt off, 3)) (ht : ((pc + 1 : Nat) : Int) + off = (tgt : Int))
    (kt : b < a → W p l e R s m args below meth c H locs cells slots Q (F0 m tgt ls rest)) (kf : a ≤ b → W p l e R s m args below meth c H locs cells slots Q (F0 m (pc + 4) ls rest)) : W p l e R s m args below meth c H locs cells slots Q (F0 m pc ls (.long y :: .long x :: rest)) := by
  subst hx
  subst hy
  refine W.lcmp hexec hb hd1 ?_
  have h1 := cmp_lt x y
  have h2 := cmp_gt x y
  have h3 := cmp_eq x y
  refine bz_gt hexec hb rfl rfl hdg ht (fun h => kt ?_) (fun h => kf ?_) <;> omega

theorem bl_le (hexec : p.tables.exec = Jvm.exec) (hb : c.code = cc) {x y : Int64} {a b : Int} {off : Int} {tgt : Nat} (hx : x.toInt = a) (hy : y.toInt = b) (hd1 : decode cc pc = .ok (.lcmp, 1)) (hdg : decode cc (pc + 1) = .ok (.ifCond .le off, 3)) (ht : ((pc + 1 : Nat) : Int) + off = (tgt : Int))
    (kt : a ≤ b → W p l e R s m args below meth c H locs cells slots Q (F0 m tgt ls rest)) (kf : b < a → W p l e R s m args below meth c H locs cells slots Q (F0 m (pc + 4) ls rest)) : W p l e R s m args below meth c H locs cells slots Q (F0 m pc ls (.long y :: .long x :: rest)) := by
  subst hx
  subst hy
  refine W.lcmp hexec hb hd1 ?_
  have h1 := cmp_lt x y
  have h2 := cmp_gt x y
  have h3 := cmp_eq x y
  refine bz_le hexec hb rfl rfl hdg ht (fun h => kt ?_) (fun h => kf ?_) <;> omega

/-- calls of contracts that change nothing -/
theorem goip {P : Int32 → Prop} {a : Array Value} (hr : va_Run p l e R s m args below meth c H locs cells slots 0 0 (F0 m pc ls st0) rest (va_Qi (fun v u => u = (σ, τ) ∧ P v) (BU G) A a) A) (hS : va_S A H0 H locs)
    (kk : ∀ (v : Int32) (H1 : Heap) (locs1 : List Loc), P v → RepH G σ τ H1 → va_S A H0 H1 locs1 → W p l e R s m args below meth c H1 locs1 cells slots Q (F0 m (pc + 3) ls (.int v :: rest))) : W p l e R s m args below meth c H locs cells slots Q (F0 m pc ls st0) :=
  goi hr hS (fun v _ _ H1 locs1 hp hR hS1 => by obtain ⟨hu, hp⟩ := hp; cases hu; exact kk v H1 locs1 hp hR hS1)
theorem golp {P : Int64 → Prop} {a : Array Value} (hr : va_Run p l e R s m args below meth c H locs cells slots 0 0 (F0 m pc ls st0) rest (va_Ql (fun v u => u = (σ, τ) ∧ P v) (BU G) A a) A) (hS : va_S A H0 H locs)
    (kk : ∀ (v : Int64) (H1 : Heap) (locs1 : List Loc), P v → RepH G σ τ H1 → va_S A H0 H1 locs1 → W p l e R s m args below meth c H1 locs1 cells slots Q (F0 m (pc + 3) ls (.long v :: rest))) : W p l e R s m args below meth c H locs cells slots Q (F0 m pc ls st0) :=
  gol hr hS (fun v _ _ H1 locs1 hp hR hS1 => by obtain ⟨hu, hp⟩ := hp; cases hu; exact kk v H1 locs1 hp hR hS1)
theorem goqp {P : Option Nat → Prop} {a : Array Value} (hr : va_Run p l e R s m args below meth c H locs cells slots 0 0 (F0 m pc ls st0) rest (va_Qq (fun v u => u = (σ, τ) ∧ P v) (BU G) A a) A) (hS : va_S A H0 H locs)
    (kk : ∀ (v : Option Nat) (H1 : Heap) (locs1 : List Loc), P v → RepH G σ τ H1 → va_S A H0 H1 locs1 → W p l e R s m args below meth c H1 locs1 cells slots Q (F0 m (pc + 3) ls (va_rf v :: rest))) : W p l e R s m args below meth c H locs cells slots Q (F0 m pc ls st0) :=
  goq hr hS (fun v _ _ H1 locs1 hp hR hS1 => by obtain ⟨hu, hp⟩ := hp; cases hu; exact kk v H1 locs1 hp hR hS1)
/-- fields of ints and longs are written -/
theorem rputi (hC : Cx p s m args meth c cc nL own ret) (hK : KU G s) (hG : GOk G A) (hR : RepH G σ τ H) (hS0 : va_S A H0 H locs) {k : Nat} {C : String} {T : u_T} {N ci index : Nat} {fs fs' : List Value} (he : ct G k (σ k) (τ k) = some (.inr (ci, fs))) (hc : vwCl[ci]? = some (C, T, N)) (hin : ∀ w ∈ u_ws C T N, w ∈ TB)
    (ty0 : Nat → FieldType) (hty : ∀ k, k < N → parseFieldDescriptor (T k).2.2.1 = some (ty0 k)) (hnm : ∀ a, a < N → ∀ b, b < N → a ≠ b → (T a).2.1 ≠ (T b).2.1) (j : Nat) (hj : j < N)
    (hl : Cond.fieldLink own index (T j).1 (T j).2.1 (T j).2.2.1 ∈ TB) (hfin : (T j).2.2.2 = false) {v : Int32} (hn : ty0 j = .int ∨ (ty0 j = .boolean ∧ (v = 0 ∨ v = 1))) (hlen : j < fs.length) (hset : fs.set j (.int v) = fs')
    (he' : ct G k (fun j' => if j' = j then v else σ k j') (τ k) = some (.inr (ci, fs'))) (hdg : decode cc pc = .ok (.putfield index, 3))
    (kk : ∀ (σ1 : SI), σ1 = up2 σ k j v → ∀ (H1 : Heap) (locs1 : List Loc), RepH G σ1 τ H1 → va_S A H0 H1 locs1 → W p l e R s m args below meth c H1 locs1 cells slots Q (F0 m (pc + 3) ls rest)) : W p l e R s m args below meth c H locs cells slots Q (F0 m pc ls (.int v :: .ref (G.2.1 k) :: rest)) :=
  rput hC hK hG hR hS0 he hc hin ty0 hty hnm j hj hl hfin (by rcases hn with h | ⟨h, h2⟩; rw [h]; rfl; rw [h]; rcases h2 with rfl | rfl <;> rfl) (by rcases hn with h | ⟨h, h2⟩; rw [h]; rfl; rw [h]; rcases h2 with rfl | rfl <;> rfl) hlen hset (up2 σ k j v) τ (by rw [up2_at]; exact he') (fun k' hk' => ⟨up2_ne hk', rfl⟩) hdg (kk _ rfl)
theorem rputl (hC : Cx p s m args meth c cc nL own ret) (hK : KU G s) (hG : GOk G A) (hR : RepH G σ τ H) (hS0 : va_S A H0 H locs) {k : Nat} {C : String} {T : u_T} {N ci index : Nat} {fs fs' : List Value} (he : ct G k (σ k) (τ k) = some (.inr (ci, fs))) (hc : vwCl[ci]? = some (C, T, N)) (hin : ∀ w ∈ u_ws C T N, w ∈ TB)
    (ty0 : Nat → FieldType) (hty : ∀ k, k < N → parseFieldDescriptor (T k).2.2.1 = some (ty0 k)) (hnm : ∀ a, a < N → ∀ b, b < N → a ≠ b → (T a).2.1 ≠ (T b).2.1) (j : Nat) (hj : j < N)
    (hl : Cond.fieldLink own index (T j).1 (T j).2.1 (T j).2.2.1 ∈ TB) (hfin : (T j).2.2.2 = false) {v : Int64} (hn : ty0 j = .long) (hlen : j < fs.length) (hset : fs.set j (.long v) = fs')
    (he' : ct G k (σ k) (fun j' => if j' = j then v else τ k j') = some (.inr (ci, fs'))) (hdg : decode cc pc = .ok (.putfield index, 3))
    (kk : ∀ (τ1 : SL), τ1 = up2 τ k j v → ∀ (H1 : Heap) (locs1 : List Loc), RepH G σ τ1 H1 → va_S A H0 H1 locs1 → W p l e R s m args below meth c H1 locs1 cells slots Q (F0 m (pc + 3) ls rest)) : W p l e R s m args below meth c H locs cells slots Q (F0 m pc ls (.long v :: .ref (G.2.1 k) :: rest)) :=
  rput hC hK hG hR hS0 he hc hin ty0 hty hnm j hj hl hfin (by rw [hn]; rfl) (by rw [hn]; rfl) hlen hset σ (up2 τ k j v) (by rw [up2_at]; exact he') (fun k' hk' => ⟨rfl, up2_ne hk'⟩) hdg (kk _ rfl)
/-- array rows with the place named -/
theorem ald (hC : Cx p s m args meth c cc nL own ret) (hK : KU G s) (hR : RepH G σ τ H) {k n : Nat} (he : ct G k (σ k) (τ k) = some (.inl (G.2.2 0, n, .inl (σ k)))) {i : Int32} {t : Int} {q : Nat} (hi : i.toInt = t) (h1 : 0 ≤ t) (h2 : t < n) (hq : t.toNat = q) (hdg : decode cc pc = .ok (.iaload, 1))
    (kk : W p l e R s m args below meth c H locs cells slots Q (F0 m (pc + 1) ls (.int (σ k q) :: rest))) : W p l e R s m args below meth c H locs cells slots Q (F0 m pc ls (.int i :: .ref (G.2.1 k) :: rest)) :=
  rald hC hK hR he (vin hi h1 h2) hdg (by rw [clampOf hi, hq]; exact kk)
theorem zald (hC : Cx p s m args meth c cc nL own ret) (hK : KU G s) (hR : RepH G σ τ H) {k n : Nat} (he : ct G k (σ k) (τ k) = some (.inl (G.2.2 1, n, .inl (σ k)))) {i : Int32} {t : Int} {q : Nat} (hi : i.toInt = t) (h1 : 0 ≤ t) (h2 : t < n) (hq : t.toNat = q) (hdg : decode cc pc = .ok (.baload, 1))
    (kk : W p l e R s m args below meth c H locs cells slots Q (F0 m (pc + 1) ls (.int (σ k q) :: rest))) : W p l e R s m args below meth c H locs cells slots Q (F0 m pc ls (.int i :: .ref (G.2.1 k) :: rest)) :=
  rzald hC hK hR he (vin hi h1 h2) hdg (by rw [clampOf hi, hq]; exact kk)
theorem aald (hC : Cx p s m args meth c cc nL own ret) (hK : KU G s) (hR : RepH G σ τ H) {k n t0 b : Nat} (ht : t0 < 5) (hr : (ty_of t0).isReference = true) (he : ct G k (σ k) (τ k) = some (.inl (G.2.2 t0, n, .inr (.inr (.inr (.inr (fun i => some (G.2.1 (b + i))))))))) {i : Int32} {t : Int} {q : Nat} (hi : i.toInt = t) (h1 : 0 ≤ t) (h2 : t < n) (hq : t.toNat = q) (hdg : decode cc pc = .ok (.aaload, 1))
    (kk : W p l e R s m args below meth c H locs cells slots Q (F0 m (pc + 1) ls (.ref (G.2.1 (b + q)) :: rest))) : W p l e R s m args below meth c H locs cells slots Q (F0 m pc ls (.int i :: .ref (G.2.1 k) :: rest)) :=
  raald hC hK hR ht hr he (vin hi h1 h2) rfl hdg (by rw [clampOf hi, hq]; exact kk)
theorem ast (hC : Cx p s m args meth c cc nL own ret) (hK : KU G s) (hG : GOk G A) (hR : RepH G σ τ H) (hS0 : va_S A H0 H locs) {k n : Nat} (he : ∀ f, ct G k f (τ k) = some (.inl (G.2.2 0, n, .inl f))) {i x : Int32} {t : Int} {q : Nat} (hi : i.toInt = t) (h1 : 0 ≤ t) (h2 : t < n) (hq : t.toNat = q) (hdg : decode cc pc = .ok (.iastore, 1))
    (kk : ∀ (σ1 : SI), σ1 = up2 σ k q x → ∀ (H1 : Heap) (locs1 : List Loc), RepH G σ1 τ H1 → va_S A H0 H1 locs1 → W p l e R s m args below meth c H1 locs1 cells slots Q (F0 m (pc + 1) ls rest)) : W p l e R s m args below meth c H locs cells slots Q (F0 m pc ls (.int x :: .int i :: .ref (G.2.1 k) :: rest)) :=
  rast hC hK hG hR hS0 he (vin hi h1 h2) hdg (fun H1 locs1 hR1 hS1 => kk _ (by rw [clampOf hi, hq]) H1 locs1 hR1 hS1)
theorem zast (hC : Cx p s m args meth c cc nL own ret) (hK : KU G s) (hG : GOk G A) (hR : RepH G σ τ H) (hS0 : va_S A H0 H locs) {k n : Nat} (he : ∀ f, ct G k f (τ k) = some (.inl (G.2.2 1, n, .inl f))) {i x : Int32} {t : Int} {q : Nat} (hi : i.toInt = t) (h1 : 0 ≤ t) (h2 : t < n) (hq : t.toNat = q) (hx : x = 0 ∨ x = 1) (hdg : decode cc pc = .ok (.bastore, 1))
    (kk : ∀ (σ1 : SI), σ1 = up2 σ k q x → ∀ (H1 : Heap) (locs1 : List Loc), RepH G σ1 τ H1 → va_S A H0 H1 locs1 → W p l e R s m args below meth c H1 locs1 cells slots Q (F0 m (pc + 1) ls rest)) : W p l e R s m args below meth c H locs cells slots Q (F0 m pc ls (.int x :: .int i :: .ref (G.2.1 k) :: rest)) :=
  rzast hC hK hG hR hS0 he (vin hi h1 h2) hx hdg (fun H1 locs1 hR1 hS1 => kk _ (by rw [clampOf hi, hq]) H1 locs1 hR1 hS1)
end ROWS7
/-! the state but for some objects -/
def Fr (S : Nat → Prop) (σ σ1 : SI) : Prop := ∀ k, ¬ S k → σ1 k = σ k
theorem Fr.rf {S : Nat → Prop} {σ : SI} : Fr S σ σ := fun _ _ => rfl
theorem Fr.tr {S : Nat → Prop} {σ σ1 σ2 : SI} (h : Fr S σ σ1) (h2 : Fr S σ1 σ2) : Fr S σ σ2 := fun k hk => (h2 k hk).trans (h k hk)
theorem Fr.mo {S S2 : Nat → Prop} {σ σ1 : SI} (h : Fr S σ σ1) (h2 : ∀ k, S k → S2 k) : Fr S2 σ σ1 := fun k hk => h k (fun q => hk (h2 k q))
theorem Fr.up {S : Nat → Prop} {σ σ1 : SI} {k j : Nat} {x : Int32} (h : Fr S σ σ1) (hk : S k) : Fr S σ (up2 σ1 k j x) := fun k' hk' => (up2_ne (fun (q : k' = k) => hk' (by rw [q]; exact hk))).trans (h k' hk')
