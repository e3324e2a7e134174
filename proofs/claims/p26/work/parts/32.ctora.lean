theorem hd_X0_init : yX0_init.cls ≠ "java/lang/invoke/MethodHandle" ∧ yX0_init.cls ≠ "java/lang/invoke/VarHandle" ∧ (parseMethodDescriptor yX0_init.desc).map (fun d => d.parameters.length) = some 1 := by decide +kernel
theorem hd_X1_init : yX1_init.cls ≠ "java/lang/invoke/MethodHandle" ∧ yX1_init.cls ≠ "java/lang/invoke/VarHandle" ∧ (parseMethodDescriptor yX1_init.desc).map (fun d => d.parameters.length) = some 5 := by decide +kernel
theorem hd_X2_init : yX2_init.cls ≠ "java/lang/invoke/MethodHandle" ∧ yX2_init.cls ≠ "java/lang/invoke/VarHandle" ∧ (parseMethodDescriptor yX2_init.desc).map (fun d => d.parameters.length) = some 1 := by decide +kernel
theorem hd_X3_init : yX3_init.cls ≠ "java/lang/invoke/MethodHandle" ∧ yX3_init.cls ≠ "java/lang/invoke/VarHandle" ∧ (parseMethodDescriptor yX3_init.desc).map (fun d => d.parameters.length) = some 0 := by decide +kernel
theorem hd_X4_init : yX4_init.cls ≠ "java/lang/invoke/MethodHandle" ∧ yX4_init.cls ≠ "java/lang/invoke/VarHandle" ∧ (parseMethodDescriptor yX4_init.desc).map (fun d => d.parameters.length) = some 0 := by decide +kernel
theorem hd_X5_init : yX5_init.cls ≠ "java/lang/invoke/MethodHandle" ∧ yX5_init.cls ≠ "java/lang/invoke/VarHandle" ∧ (parseMethodDescriptor yX5_init.desc).map (fun d => d.parameters.length) = some 0 := by decide +kernel
theorem hd_X6_init : yX6_init.cls ≠ "java/lang/invoke/MethodHandle" ∧ yX6_init.cls ≠ "java/lang/invoke/VarHandle" ∧ (parseMethodDescriptor yX6_init.desc).map (fun d => d.parameters.length) = some 0 := by decide +kernel
theorem hd_X7_init : yX7_init.cls ≠ "java/lang/invoke/MethodHandle" ∧ yX7_init.cls ≠ "java/lang/invoke/VarHandle" ∧ (parseMethodDescriptor yX7_init.desc).map (fun d => d.parameters.length) = some 0 := by decide +kernel
theorem hd_X8_init : yX8_init.cls ≠ "java/lang/invoke/MethodHandle" ∧ yX8_init.cls ≠ "java/lang/invoke/VarHandle" ∧ (parseMethodDescriptor yX8_init.desc).map (fun d => d.parameters.length) = some 1 := by decide +kernel
theorem hd_X9_init : yX9_init.cls ≠ "java/lang/invoke/MethodHandle" ∧ yX9_init.cls ≠ "java/lang/invoke/VarHandle" ∧ (parseMethodDescriptor yX9_init.desc).map (fun d => d.parameters.length) = some 0 := by decide +kernel
theorem hd_X10_init : yX10_init.cls ≠ "java/lang/invoke/MethodHandle" ∧ yX10_init.cls ≠ "java/lang/invoke/VarHandle" ∧ (parseMethodDescriptor yX10_init.desc).map (fun d => d.parameters.length) = some 0 := by decide +kernel
abbrev QFill (G : Gx) (a z n : Nat) (x : Int32) (H : Heap) : Prop := H.size = z ∧ KI G a n (fun _ => x) H
set_option maxHeartbeats 4000000 in
set_option maxRecDepth 100000 in
/-- Arrays.fill over a row -/
theorem i_fill (l : Launch) (G : Gx) (a z n : Nat) (x : Int32) (f : Nat → Int32) (hn : n ≤ 4800) : KM0 l yJ7_fill_53178 cJ7_fill_53178 4 [.ref a, .int x] 0 0 0 (KS G z (fun H => KI G a n f H)) (QFill G a z n x) (fun q => q = a) := by
  refine met_ofK (own := RJ7) (plainJ7 rfl) rfl [(0, .ref a), (1, .int x)] rfl (Nat.le_of_ble_eq_true rfl) ?_
  intro p e s m args below meth c ls hC hni hK hAO hz hI hl
  have hS : va_S (fun q => q = a) s.heap s.heap [] := va_S.rf
  refine lv_iconst (v := 0) hC.x hC.b dJ7_fill_53178_0 (by decide) ?_
  refine lv_istore_n (lv' := [(2, .int (0 : Int32)), (0, .ref a), (1, .int x)]) hC.x hC.b dJ7_fill_53178_1 rfl hl (by decide) rfl (fun ls hl => ?_)
  refine lv_aload_n hC.x hC.b dJ7_fill_53178_2 rfl (lv_at hl 1 rfl) ?_
  refine va_alen (ws := [(a, .inl (G.2.2 0, (n, .inl f)))]) (t0 := 0) (cA := G.2.2 0) (x := (n, .inl f)) (ty := .int) (v := nI n) hC.x hC.b hK.1 (fun i q hq => ?_) 0 rfl rfl rfl dJ7_fill_53178_3 ?_
  · match i, hq with
    | 0, hq => cases hq; exact hI
    | i + 1, hq => simp at hq
  refine lv_istore_n (lv' := [(3, .int (nI n)), (2, .int (0 : Int32)), (0, .ref a), (1, .int x)]) hC.x hC.b dJ7_fill_53178_4 rfl hl (by decide) rfl (fun ls hl => ?_)
  have L : ∀ (F i : Nat) (f : Nat → Int32), n - i < F → i ≤ n → (∀ j, j < i → f j = x) → ∀ (H : Heap) (locs : List Loc) (ls : Array Slot), KI G a n f H → H.size = z → va_S (fun q => q = a) s.heap H locs → lv_has ls 4 [(2, .int (nI i)), (3, .int (nI n)), (0, .ref a), (1, .int x)] → W p l e (rmK 0 0 0) s m args below meth c H locs 0 0 (MQ below (va_Qv (fun _ : Unit => True) (fun _ t => QFill G a z n x t.heap) (fun q => q = a)) args s 0 0 (fun q => q = a)) (F0 m 5 ls []) := by
    intro F
    induction F with
    | zero => intro i f hm; exact absurd hm (Nat.not_lt_zero _)
    | succ F ih =>
      intro i f hm hi hf H locs ls hI hz hS hl
      have hnI := nI_T i (by omega)
      have hnN := nI_T n (by omega)
      refine lv_iload_n hC.x hC.b dJ7_fill_53178_5 rfl (lv_at hl 0 rfl) ?_
      refine lv_iload_n hC.x hC.b dJ7_fill_53178_6 rfl (lv_at hl 1 rfl) ?_
      refine bi_ge (tgt := 20) (a := (i : Int)) (b := (n : Int)) hC.x hC.b hnI hnN dJ7_fill_53178_7 (by decide) (fun c_1 => ?_) (fun c_1 => ?_)
      · exact kret hC hS ⟨hz, ki_congr hI (fun j hj => hf j (by omega))⟩ (Nat.le_refl _) (Nat.le_refl _) dJ7_fill_53178_20
      · refine lv_aload_n hC.x hC.b dJ7_fill_53178_10 rfl (lv_at hl 2 rfl) ?_
        refine lv_iload_n hC.x hC.b dJ7_fill_53178_11 rfl (lv_at hl 0 rfl) ?_
        refine lv_iload_n hC.x hC.b dJ7_fill_53178_12 rfl (lv_at hl 3 rfl) ?_
        refine kiast (a := a) (n := n) hC hK hS rfl hI (vin hnI (by omega) (by omega)) dJ7_fill_53178_13 (fun H locs hI zN oN hS => ?_)
        refine lv_iinc (v := nI (i + 1)) (lv' := [(2, .int (nI (i + 1))), (3, .int (nI n)), (0, .ref a), (1, .int x)]) hC.x hC.b dJ7_fill_53178_14 hl (k := 0) rfl (nI_succ _).symm (by decide) rfl (fun ls hl => ?_)
        refine lv_goto (tgt := 5) hC.x hC.b dJ7_fill_53178_17 (by decide) ?_
        refine ih (i + 1) _ (by omega) (by omega) (fun j hj => ?_) H locs ls hI (by omega) hS hl
        have e1 : (nI i).toNatClampNeg = i := (clampOf hnI).trans (Int.toNat_natCast i)
        show (if j = (nI i).toNatClampNeg then x else f j) = x
        rw [e1]
        by_cases e2 : j = i
        · rw [if_pos e2]
        · rw [if_neg e2]
          exact hf j (by omega)
  exact L (n + 1) 0 f (by omega) (Nat.zero_le _) (fun j hj => absurd hj (Nat.not_lt_zero j)) _ _ _ hI hz hS (lv_sub hl [1, 0, 2, 3] rfl)
/-- what the shelf's loop makes for one place -/
def FX5 (G : Gx) (z j : Nat) (H : Heap) : Prop := AT G (z + (3 + 4 * j)) (.inr (0, [.int (nI j), .int 0, .int 2, .int 1, .int 0, .int 0, .int 0, .int 0, .int 0, .int (-10), .int 0, .int 0])) H ∧ AT G (z + (4 + 4 * j)) (.inr (4, [.int 4, .int (-1), .int (-1), .int 0, .ref (z + (5 + 4 * j) + 0), .ref (z + (5 + 4 * j) + 1)])) H ∧
  AT G (z + (5 + 4 * j) + 0) (.inl (G.2.2 0, 201, .inl (fun _ => 0))) H ∧ AT G (z + (5 + 4 * j) + 1) (.inl (G.2.2 0, 201, .inl (fun _ => 0))) H
theorem FX5.kept {G : Gx} {z j : Nat} {H H1 : Heap} (h : FX5 G z j H) (ho : ∀ q, z + (3 + 4 * j) ≤ q → q ≤ z + (6 + 4 * j) → H1[q]? = H[q]?) : FX5 G z j H1 :=
  ⟨va_at.kept h.1 (ho _ (by omega) (by omega)), va_at.kept h.2.1 (ho _ (by omega) (by omega)), va_at.kept h.2.2.1 (ho _ (by omega) (by omega)), va_at.kept h.2.2.2 (ho _ (by omega) (by omega))⟩

abbrev DX3 (G : Gx) (a z : Nat) (H : Heap) : Prop := AT G a (.inr (3, [.int (0), .long (0), .long (0), .long (0), .long (0)])) H
theorem DX3.kept {G : Gx} {a z : Nat} {H H1 : Heap} (h : DX3 G a z H) (ho : ∀ q, (q = a ∨ (z ≤ q ∧ q < z + 0)) → H1[q]? = H[q]?) : DX3 G a z H1 := va_at.kept (h) (ho _ (by first | (left; rfl) | (right; dsimp only; omega)))
abbrev QX3 (G : Gx) (a z : Nat) (H : Heap) : Prop := H.size = z + 0 ∧ DX3 G a z H
set_option maxHeartbeats 4000000 in
set_option maxRecDepth 100000 in
theorem i_X3 (l : Launch) (G : Gx) (a z : Nat) (V : Nat → Value) : KM0 l yX3_init cX3_init 1 [.ref a] 1 0 0 (KS G z (fun H => a < z ∧ KO G 3 5 a V H)) (QX3 G a z) (fun q => q = a ∨ z ≤ q) := by
  refine met_ofK (own := RX3) (by decide +kernel) rfl [(0, .ref a)] rfl (Nat.le_of_ble_eq_true rfl) ?_
  intro p e s m args below meth c ls hC hni hK hAO hz hP hl
  obtain ⟨haz, hO⟩ := hP
  have hni : meth.name = "<init>" := hni
  have hz : s.heap.size = z + 0 := hz
  have hS : va_S (fun q => q = a ∨ z ≤ q) s.heap s.heap [] := va_S.rf
  refine lv_aload_n hC.x hC.b dX3_init_0 rfl (lv_at hl 0 rfl) ?_
  refine kobj hC hl.1 TM_X3_1 TI_obj TC_obj dX3_init_1 (Nat.le_of_ble_eq_true rfl) (Nat.le_of_ble_eq_true rfl) ?_
  refine lv_aload_n hC.x hC.b dX3_init_4 rfl (lv_at hl 0 rfl) ?_
  refine lv_iconst (v := 0) hC.x hC.b dX3_init_5 (by decide) ?_
  refine kput hC hK hS (Or.inl rfl) hO rfl uin_X3 tyX3 tyX3_ok nmX3 0 (by decide) TF_X3_7 rfl rfl rfl dX3_init_6 (fun H locs hO zN oN hS => ?_)
  replace hz : H.size = z + 0 := by omega
  clear zN oN
  refine lv_aload_n hC.x hC.b dX3_init_9 rfl (lv_at hl 0 rfl) ?_
  refine lv_lconst (v := 0) hC.x hC.b dX3_init_10 (by decide) ?_
  refine kput hC hK hS (Or.inl rfl) hO rfl uin_X3 tyX3 tyX3_ok nmX3 1 (by decide) TF_X3_13 rfl rfl rfl dX3_init_11 (fun H locs hO zN oN hS => ?_)
  replace hz : H.size = z + 0 := by omega
  clear zN oN
  refine lv_aload_n hC.x hC.b dX3_init_14 rfl (lv_at hl 0 rfl) ?_
  refine lv_lconst (v := 0) hC.x hC.b dX3_init_15 (by decide) ?_
  refine kput hC hK hS (Or.inl rfl) hO rfl uin_X3 tyX3 tyX3_ok nmX3 2 (by decide) TF_X3_17 rfl rfl rfl dX3_init_16 (fun H locs hO zN oN hS => ?_)
  replace hz : H.size = z + 0 := by omega
  clear zN oN
  refine lv_aload_n hC.x hC.b dX3_init_19 rfl (lv_at hl 0 rfl) ?_
  refine lv_lconst (v := 0) hC.x hC.b dX3_init_20 (by decide) ?_
  refine kput hC hK hS (Or.inl rfl) hO rfl uin_X3 tyX3 tyX3_ok nmX3 3 (by decide) TF_X3_20 rfl rfl rfl dX3_init_21 (fun H locs hO zN oN hS => ?_)
  replace hz : H.size = z + 0 := by omega
  clear zN oN
  refine lv_aload_n hC.x hC.b dX3_init_24 rfl (lv_at hl 0 rfl) ?_
  refine lv_lconst (v := 0) hC.x hC.b dX3_init_25 (by decide) ?_
  refine kput hC hK hS (Or.inl rfl) hO rfl uin_X3 tyX3 tyX3_ok nmX3 4 (by decide) TF_X3_23 rfl rfl rfl dX3_init_26 (fun H locs hO zN oN hS => ?_)
  replace hz : H.size = z + 0 := by omega
  clear zN oN
  exact kret hC hS ⟨by omega, ⟨_, rfl, hO.to (fun j hj => by rcases (show j = 0 ∨ j = 1 ∨ j = 2 ∨ j = 3 ∨ j = 4 by omega) with rfl | rfl | rfl | rfl | rfl <;> rfl)⟩⟩ (Nat.le_of_ble_eq_true rfl) (Nat.le_of_ble_eq_true rfl) dX3_init_29
abbrev DX0 (G : Gx) (a z : Nat) (pl : Int32) (H : Heap) : Prop := AT G a (.inr (0, [.int pl, .int (0), .int (2), .int (1), .int (0), .int (0), .int (0), .int (0), .int (0), .int (-10), .int (0), .int (0)])) H
theorem DX0.kept {G : Gx} {a z : Nat} {pl : Int32} {H H1 : Heap} (h : DX0 G a z pl H) (ho : ∀ q, (q = a ∨ (z ≤ q ∧ q < z + 0)) → H1[q]? = H[q]?) : DX0 G a z pl H1 := va_at.kept (h) (ho _ (by first | (left; rfl) | (right; dsimp only; omega)))
abbrev QX0 (G : Gx) (a z : Nat) (pl : Int32) (H : Heap) : Prop := H.size = z + 0 ∧ DX0 G a z pl H
set_option maxHeartbeats 4000000 in
set_option maxRecDepth 100000 in
theorem i_X0 (l : Launch) (G : Gx) (a z : Nat) (pl : Int32) (V : Nat → Value) : KM0 l yX0_init cX0_init 2 [.ref a, .int pl] 1 0 0 (KS G z (fun H => a < z ∧ KO G 0 12 a V H)) (QX0 G a z pl) (fun q => q = a ∨ z ≤ q) := by
  refine met_ofK (own := RX0) (by decide +kernel) rfl [(0, .ref a), (1, .int pl)] rfl (Nat.le_of_ble_eq_true rfl) ?_
  intro p e s m args below meth c ls hC hni hK hAO hz hP hl
  obtain ⟨haz, hO⟩ := hP
  have hni : meth.name = "<init>" := hni
  have hz : s.heap.size = z + 0 := hz
  have hS : va_S (fun q => q = a ∨ z ≤ q) s.heap s.heap [] := va_S.rf
  refine lv_aload_n hC.x hC.b dX0_init_0 rfl (lv_at hl 0 rfl) ?_
  refine kobj hC hl.1 TM_X0_3 TI_obj TC_obj dX0_init_1 (Nat.le_of_ble_eq_true rfl) (Nat.le_of_ble_eq_true rfl) ?_
  refine lv_aload_n hC.x hC.b dX0_init_4 rfl (lv_at hl 0 rfl) ?_
  refine lv_iconst (v := 0) hC.x hC.b dX0_init_5 (by decide) ?_
  refine kput hC hK hS (Or.inl rfl) hO rfl uin_X0 tyX0 tyX0_ok nmX0 1 (by decide) TF_X0_9 rfl rfl rfl dX0_init_6 (fun H locs hO zN oN hS => ?_)
  replace hz : H.size = z + 0 := by omega
  clear zN oN
  refine lv_aload_n hC.x hC.b dX0_init_9 rfl (lv_at hl 0 rfl) ?_
  refine lv_iconst (v := 2) hC.x hC.b dX0_init_10 (by decide) ?_
  refine kput hC hK hS (Or.inl rfl) hO rfl uin_X0 tyX0 tyX0_ok nmX0 2 (by decide) TF_X0_15 rfl rfl rfl dX0_init_11 (fun H locs hO zN oN hS => ?_)
  replace hz : H.size = z + 0 := by omega
  clear zN oN
  refine lv_aload_n hC.x hC.b dX0_init_14 rfl (lv_at hl 0 rfl) ?_
  refine lv_iconst (v := 1) hC.x hC.b dX0_init_15 (by decide) ?_
  refine kput hC hK hS (Or.inl rfl) hO rfl uin_X0 tyX0 tyX0_ok nmX0 3 (by decide) TF_X0_18 rfl rfl rfl dX0_init_16 (fun H locs hO zN oN hS => ?_)
  replace hz : H.size = z + 0 := by omega
  clear zN oN
  refine lv_aload_n hC.x hC.b dX0_init_19 rfl (lv_at hl 0 rfl) ?_
  refine lv_iconst (v := 0) hC.x hC.b dX0_init_20 (by decide) ?_
  refine kput hC hK hS (Or.inl rfl) hO rfl uin_X0 tyX0 tyX0_ok nmX0 4 (by decide) TF_X0_21 rfl rfl rfl dX0_init_21 (fun H locs hO zN oN hS => ?_)
  replace hz : H.size = z + 0 := by omega
  clear zN oN
  refine lv_aload_n hC.x hC.b dX0_init_24 rfl (lv_at hl 0 rfl) ?_
  refine lv_iconst (v := 0) hC.x hC.b dX0_init_25 (by decide) ?_
  refine kput hC hK hS (Or.inl rfl) hO rfl uin_X0 tyX0 tyX0_ok nmX0 5 (by decide) TF_X0_24 rfl rfl rfl dX0_init_26 (fun H locs hO zN oN hS => ?_)
  replace hz : H.size = z + 0 := by omega
  clear zN oN
  refine lv_aload_n hC.x hC.b dX0_init_29 rfl (lv_at hl 0 rfl) ?_
  refine lv_iconst (v := 0) hC.x hC.b dX0_init_30 (by decide) ?_
  refine kput hC hK hS (Or.inl rfl) hO rfl uin_X0 tyX0 tyX0_ok nmX0 6 (by decide) TF_X0_28 rfl rfl rfl dX0_init_31 (fun H locs hO zN oN hS => ?_)
  replace hz : H.size = z + 0 := by omega
  clear zN oN
  refine lv_aload_n hC.x hC.b dX0_init_34 rfl (lv_at hl 0 rfl) ?_
  refine lv_iconst (v := 0) hC.x hC.b dX0_init_35 (by decide) ?_
  refine kput hC hK hS (Or.inl rfl) hO rfl uin_X0 tyX0 tyX0_ok nmX0 7 (by decide) TF_X0_31 rfl rfl rfl dX0_init_36 (fun H locs hO zN oN hS => ?_)
  replace hz : H.size = z + 0 := by omega
  clear zN oN
  refine lv_aload_n hC.x hC.b dX0_init_39 rfl (lv_at hl 0 rfl) ?_
  refine lv_iconst (v := 0) hC.x hC.b dX0_init_40 (by decide) ?_
  refine kput hC hK hS (Or.inl rfl) hO rfl uin_X0 tyX0 tyX0_ok nmX0 8 (by decide) TF_X0_34 rfl rfl rfl dX0_init_41 (fun H locs hO zN oN hS => ?_)
  replace hz : H.size = z + 0 := by omega
  clear zN oN
  refine lv_aload_n hC.x hC.b dX0_init_44 rfl (lv_at hl 0 rfl) ?_
  refine lv_bipush (v := (-10)) hC.x hC.b dX0_init_45 (by decide) ?_
  refine kput hC hK hS (Or.inl rfl) hO rfl uin_X0 tyX0 tyX0_ok nmX0 9 (by decide) TF_X0_37 rfl rfl rfl dX0_init_47 (fun H locs hO zN oN hS => ?_)
  replace hz : H.size = z + 0 := by omega
  clear zN oN
  refine lv_aload_n hC.x hC.b dX0_init_50 rfl (lv_at hl 0 rfl) ?_
  refine lv_iconst (v := 0) hC.x hC.b dX0_init_51 (by decide) ?_
  refine kput hC hK hS (Or.inl rfl) hO rfl uin_X0 tyX0 tyX0_ok nmX0 10 (by decide) TF_X0_40 rfl rfl rfl dX0_init_52 (fun H locs hO zN oN hS => ?_)
  replace hz : H.size = z + 0 := by omega
  clear zN oN
  refine lv_aload_n hC.x hC.b dX0_init_55 rfl (lv_at hl 0 rfl) ?_
  refine lv_iconst (v := 0) hC.x hC.b dX0_init_56 (by decide) ?_
  refine kput hC hK hS (Or.inl rfl) hO rfl uin_X0 tyX0 tyX0_ok nmX0 11 (by decide) TF_X0_43 rfl rfl rfl dX0_init_57 (fun H locs hO zN oN hS => ?_)
  replace hz : H.size = z + 0 := by omega
  clear zN oN
  refine lv_aload_n hC.x hC.b dX0_init_60 rfl (lv_at hl 0 rfl) ?_
  refine lv_iload_n hC.x hC.b dX0_init_61 rfl (lv_at hl 1 rfl) ?_
  refine kputF hC hni hK hS (Or.inl rfl) hO rfl uin_X0 tyX0 tyX0_ok nmX0 0 (by decide) TF_X0_46 rfl rfl rfl rfl dX0_init_62 (fun H locs hO zN oN hS => ?_)
  replace hz : H.size = z + 0 := by omega
  clear zN oN
  exact kret hC hS ⟨by omega, ⟨_, rfl, hO.to (fun j hj => by rcases (show j = 0 ∨ j = 1 ∨ j = 2 ∨ j = 3 ∨ j = 4 ∨ j = 5 ∨ j = 6 ∨ j = 7 ∨ j = 8 ∨ j = 9 ∨ j = 10 ∨ j = 11 by omega) with rfl | rfl | rfl | rfl | rfl | rfl | rfl | rfl | rfl | rfl | rfl | rfl <;> rfl)⟩⟩ (Nat.le_of_ble_eq_true rfl) (Nat.le_of_ble_eq_true rfl) dX0_init_65
abbrev DX4 (G : Gx) (a z : Nat) (H : Heap) : Prop := AT G a (.inr (4, [.int (4), .int (-1), .int (-1), .int (0), .ref (z + 0), .ref (z + 1)])) H ∧ AT G (z + 0) (.inl (G.2.2 0, 201, .inl (fun _ => 0))) H ∧ AT G (z + 1) (.inl (G.2.2 0, 201, .inl (fun _ => 0))) H
theorem DX4.kept {G : Gx} {a z : Nat} {H H1 : Heap} (h : DX4 G a z H) (ho : ∀ q, (q = a ∨ (z ≤ q ∧ q < z + 2)) → H1[q]? = H[q]?) : DX4 G a z H1 := ⟨va_at.kept (h.1) (ho _ (by first | (left; rfl) | (right; dsimp only; omega))), va_at.kept (h.2.1) (ho _ (by first | (left; rfl) | (right; dsimp only; omega))), va_at.kept (h.2.2) (ho _ (by first | (left; rfl) | (right; dsimp only; omega)))⟩
abbrev QX4 (G : Gx) (a z : Nat) (H : Heap) : Prop := H.size = z + 2 ∧ DX4 G a z H
set_option maxHeartbeats 4000000 in
set_option maxRecDepth 100000 in
theorem i_X4 (l : Launch) (G : Gx) (a z : Nat) (V : Nat → Value) : KM0 l yX4_init cX4_init 1 [.ref a] 1 2 402 (KS G z (fun H => a < z ∧ KO G 4 6 a V H)) (QX4 G a z) (fun q => q = a ∨ z ≤ q) := by
  refine met_ofK (own := RX4) (by decide +kernel) rfl [(0, .ref a)] rfl (Nat.le_of_ble_eq_true rfl) ?_
  intro p e s m args below meth c ls hC hni hK hAO hz hP hl
  obtain ⟨haz, hO⟩ := hP
  have hni : meth.name = "<init>" := hni
  have hz : s.heap.size = z + 0 := hz
  have hS : va_S (fun q => q = a ∨ z ≤ q) s.heap s.heap [] := va_S.rf
  refine lv_aload_n hC.x hC.b dX4_init_0 rfl (lv_at hl 0 rfl) ?_
  refine kobj hC hl.1 TM_X4_3 TI_obj TC_obj dX4_init_1 (Nat.le_of_ble_eq_true rfl) (Nat.le_of_ble_eq_true rfl) ?_
  refine lv_aload_n hC.x hC.b dX4_init_4 rfl (lv_at hl 0 rfl) ?_
  refine lv_iconst (v := 4) hC.x hC.b dX4_init_5 (by decide) ?_
  refine kput hC hK hS (Or.inl rfl) hO rfl uin_X4 tyX4 tyX4_ok nmX4 0 (by decide) TF_X4_9 rfl rfl rfl dX4_init_6 (fun H locs hO zN oN hS => ?_)
  replace hz : H.size = z + 0 := by omega
  clear zN oN
  refine lv_aload_n hC.x hC.b dX4_init_9 rfl (lv_at hl 0 rfl) ?_
  refine lv_iconst (v := (-1)) hC.x hC.b dX4_init_10 (by decide) ?_
  refine kput hC hK hS (Or.inl rfl) hO rfl uin_X4 tyX4 tyX4_ok nmX4 1 (by decide) TF_X4_15 rfl rfl rfl dX4_init_11 (fun H locs hO zN oN hS => ?_)
  replace hz : H.size = z + 0 := by omega
  clear zN oN
  refine lv_aload_n hC.x hC.b dX4_init_14 rfl (lv_at hl 0 rfl) ?_
  refine lv_iconst (v := (-1)) hC.x hC.b dX4_init_15 (by decide) ?_
  refine kput hC hK hS (Or.inl rfl) hO rfl uin_X4 tyX4 tyX4_ok nmX4 2 (by decide) TF_X4_18 rfl rfl rfl dX4_init_16 (fun H locs hO zN oN hS => ?_)
  replace hz : H.size = z + 0 := by omega
  clear zN oN
  refine lv_aload_n hC.x hC.b dX4_init_19 rfl (lv_at hl 0 rfl) ?_
  refine lv_iconst (v := 0) hC.x hC.b dX4_init_20 (by decide) ?_
  refine kput hC hK hS (Or.inl rfl) hO rfl uin_X4 tyX4 tyX4_ok nmX4 3 (by decide) TF_X4_21 rfl rfl rfl dX4_init_21 (fun H locs hO zN oN hS => ?_)
  replace hz : H.size = z + 0 := by omega
  clear zN oN
  refine lv_aload_n hC.x hC.b dX4_init_24 rfl (lv_at hl 0 rfl) ?_
  refine lv_sipush (v := 201) hC.x hC.b dX4_init_25 (by decide) ?_
  refine knewi (h := z + 0) hC hK hS hz (N := 201) (by decide) rfl (Nat.le_of_ble_eq_true rfl) (Nat.le_of_ble_eq_true rfl) (Nat.le_of_ble_eq_true rfl) dX4_init_28 (fun H hN zN oN hS => ?_)
  replace hO := KO.kept hO (oN _ (by omega))
  have hN_1 : AT G (z + 0) (.inl (G.2.2 0, 201, .inl (fun _ => 0))) H := hN
  clear hN
  replace hz : H.size = z + 1 := by omega
  clear zN oN
  refine kputF hC hni hK hS (Or.inl rfl) hO rfl uin_X4 tyX4 tyX4_ok nmX4 4 (by decide) TF_X4_24 rfl rfl rfl rfl dX4_init_30 (fun H locs hO zN oN hS => ?_)
  replace hN_1 := va_at.kept hN_1 (oN _ (by omega))
  replace hz : H.size = z + 1 := by omega
  clear zN oN
  refine lv_aload_n hC.x hC.b dX4_init_33 rfl (lv_at hl 0 rfl) ?_
  refine lv_sipush (v := 201) hC.x hC.b dX4_init_34 (by decide) ?_
  refine knewi (h := z + 1) hC hK hS hz (N := 201) (by decide) rfl (Nat.le_of_ble_eq_true rfl) (Nat.le_of_ble_eq_true rfl) (Nat.le_of_ble_eq_true rfl) dX4_init_37 (fun H hN zN oN hS => ?_)
  replace hO := KO.kept hO (oN _ (by omega))
  replace hN_1 := va_at.kept hN_1 (oN _ (by omega))
  have hN_2 : AT G (z + 1) (.inl (G.2.2 0, 201, .inl (fun _ => 0))) H := hN
  clear hN
  replace hz : H.size = z + 2 := by omega
  clear zN oN
  refine kputF hC hni hK hS (Or.inl rfl) hO rfl uin_X4 tyX4 tyX4_ok nmX4 5 (by decide) TF_X4_28 rfl rfl rfl rfl dX4_init_39 (fun H locs hO zN oN hS => ?_)
  replace hN_1 := va_at.kept hN_1 (oN _ (by omega))
  replace hN_2 := va_at.kept hN_2 (oN _ (by omega))
  replace hz : H.size = z + 2 := by omega
  clear zN oN
  exact kret hC hS ⟨by omega, ⟨_, rfl, hO.to (fun j hj => by rcases (show j = 0 ∨ j = 1 ∨ j = 2 ∨ j = 3 ∨ j = 4 ∨ j = 5 by omega) with rfl | rfl | rfl | rfl | rfl | rfl <;> rfl)⟩, hN_1, hN_2⟩ (Nat.le_of_ble_eq_true rfl) (Nat.le_of_ble_eq_true rfl) dX4_init_42
abbrev DX6 (G : Gx) (a z : Nat) (H : Heap) : Prop := AT G a (.inr (6, [.ref (z + 0), .ref (z + 1), .ref (z + 2), .int (0)])) H ∧ AT G (z + 0) (.inl (G.2.2 0, 100, .inl (fun _ => 0))) H ∧ AT G (z + 1) (.inl (G.2.2 0, 100, .inl (fun _ => 0))) H ∧ AT G (z + 2) (.inl (G.2.2 0, 100, .inl (fun _ => 0))) H
theorem DX6.kept {G : Gx} {a z : Nat} {H H1 : Heap} (h : DX6 G a z H) (ho : ∀ q, (q = a ∨ (z ≤ q ∧ q < z + 3)) → H1[q]? = H[q]?) : DX6 G a z H1 := ⟨va_at.kept (h.1) (ho _ (by first | (left; rfl) | (right; dsimp only; omega))), va_at.kept (h.2.1) (ho _ (by first | (left; rfl) | (right; dsimp only; omega))), va_at.kept (h.2.2.1) (ho _ (by first | (left; rfl) | (right; dsimp only; omega))), va_at.kept (h.2.2.2) (ho _ (by first | (left; rfl) | (right; dsimp only; omega)))⟩
abbrev QX6 (G : Gx) (a z : Nat) (H : Heap) : Prop := H.size = z + 3 ∧ DX6 G a z H
set_option maxHeartbeats 4000000 in
set_option maxRecDepth 100000 in
theorem i_X6 (l : Launch) (G : Gx) (a z : Nat) (V : Nat → Value) : KM0 l yX6_init cX6_init 1 [.ref a] 1 3 300 (KS G z (fun H => a < z ∧ KO G 6 4 a V H)) (QX6 G a z) (fun q => q = a ∨ z ≤ q) := by
  refine met_ofK (own := RX6) (by decide +kernel) rfl [(0, .ref a)] rfl (Nat.le_of_ble_eq_true rfl) ?_
  intro p e s m args below meth c ls hC hni hK hAO hz hP hl
  obtain ⟨haz, hO⟩ := hP
  have hni : meth.name = "<init>" := hni
  have hz : s.heap.size = z + 0 := hz
  have hS : va_S (fun q => q = a ∨ z ≤ q) s.heap s.heap [] := va_S.rf
  refine lv_aload_n hC.x hC.b dX6_init_0 rfl (lv_at hl 0 rfl) ?_
  refine kobj hC hl.1 TM_X6_3 TI_obj TC_obj dX6_init_1 (Nat.le_of_ble_eq_true rfl) (Nat.le_of_ble_eq_true rfl) ?_
  refine lv_aload_n hC.x hC.b dX6_init_4 rfl (lv_at hl 0 rfl) ?_
  refine lv_bipush (v := 100) hC.x hC.b dX6_init_5 (by decide) ?_
  refine knewi (h := z + 0) hC hK hS hz (N := 100) (by decide) rfl (Nat.le_of_ble_eq_true rfl) (Nat.le_of_ble_eq_true rfl) (Nat.le_of_ble_eq_true rfl) dX6_init_7 (fun H hN zN oN hS => ?_)
  replace hO := KO.kept hO (oN _ (by omega))
  have hN_1 : AT G (z + 0) (.inl (G.2.2 0, 100, .inl (fun _ => 0))) H := hN
  clear hN
  replace hz : H.size = z + 1 := by omega
  clear zN oN
  refine kputF hC hni hK hS (Or.inl rfl) hO rfl uin_X6 tyX6 tyX6_ok nmX6 0 (by decide) TF_X6_9 rfl rfl rfl rfl dX6_init_9 (fun H locs hO zN oN hS => ?_)
  replace hN_1 := va_at.kept hN_1 (oN _ (by omega))
  replace hz : H.size = z + 1 := by omega
  clear zN oN
  refine lv_aload_n hC.x hC.b dX6_init_12 rfl (lv_at hl 0 rfl) ?_
  refine lv_bipush (v := 100) hC.x hC.b dX6_init_13 (by decide) ?_
  refine knewi (h := z + 1) hC hK hS hz (N := 100) (by decide) rfl (Nat.le_of_ble_eq_true rfl) (Nat.le_of_ble_eq_true rfl) (Nat.le_of_ble_eq_true rfl) dX6_init_15 (fun H hN zN oN hS => ?_)
  replace hO := KO.kept hO (oN _ (by omega))
  replace hN_1 := va_at.kept hN_1 (oN _ (by omega))
  have hN_2 : AT G (z + 1) (.inl (G.2.2 0, 100, .inl (fun _ => 0))) H := hN
  clear hN
  replace hz : H.size = z + 2 := by omega
  clear zN oN
  refine kputF hC hni hK hS (Or.inl rfl) hO rfl uin_X6 tyX6 tyX6_ok nmX6 1 (by decide) TF_X6_15 rfl rfl rfl rfl dX6_init_17 (fun H locs hO zN oN hS => ?_)
  replace hN_1 := va_at.kept hN_1 (oN _ (by omega))
  replace hN_2 := va_at.kept hN_2 (oN _ (by omega))
  replace hz : H.size = z + 2 := by omega
  clear zN oN
  refine lv_aload_n hC.x hC.b dX6_init_20 rfl (lv_at hl 0 rfl) ?_
  refine lv_bipush (v := 100) hC.x hC.b dX6_init_21 (by decide) ?_
  refine knewi (h := z + 2) hC hK hS hz (N := 100) (by decide) rfl (Nat.le_of_ble_eq_true rfl) (Nat.le_of_ble_eq_true rfl) (Nat.le_of_ble_eq_true rfl) dX6_init_23 (fun H hN zN oN hS => ?_)
  replace hO := KO.kept hO (oN _ (by omega))
  replace hN_1 := va_at.kept hN_1 (oN _ (by omega))
  replace hN_2 := va_at.kept hN_2 (oN _ (by omega))
  have hN_3 : AT G (z + 2) (.inl (G.2.2 0, 100, .inl (fun _ => 0))) H := hN
  clear hN
  replace hz : H.size = z + 3 := by omega
  clear zN oN
  refine kputF hC hni hK hS (Or.inl rfl) hO rfl uin_X6 tyX6 tyX6_ok nmX6 2 (by decide) TF_X6_18 rfl rfl rfl rfl dX6_init_25 (fun H locs hO zN oN hS => ?_)
  replace hN_1 := va_at.kept hN_1 (oN _ (by omega))
  replace hN_2 := va_at.kept hN_2 (oN _ (by omega))
  replace hN_3 := va_at.kept hN_3 (oN _ (by omega))
  replace hz : H.size = z + 3 := by omega
  clear zN oN
  refine lv_aload_n hC.x hC.b dX6_init_28 rfl (lv_at hl 0 rfl) ?_
  refine lv_iconst (v := 0) hC.x hC.b dX6_init_29 (by decide) ?_
  refine kput hC hK hS (Or.inl rfl) hO rfl uin_X6 tyX6 tyX6_ok nmX6 3 (by decide) TF_X6_21 rfl rfl rfl dX6_init_30 (fun H locs hO zN oN hS => ?_)
  replace hN_1 := va_at.kept hN_1 (oN _ (by omega))
  replace hN_2 := va_at.kept hN_2 (oN _ (by omega))
  replace hN_3 := va_at.kept hN_3 (oN _ (by omega))
  replace hz : H.size = z + 3 := by omega
  clear zN oN
  exact kret hC hS ⟨by omega, ⟨_, rfl, hO.to (fun j hj => by rcases (show j = 0 ∨ j = 1 ∨ j = 2 ∨ j = 3 by omega) with rfl | rfl | rfl | rfl <;> rfl)⟩, hN_1, hN_2, hN_3⟩ (Nat.le_of_ble_eq_true rfl) (Nat.le_of_ble_eq_true rfl) dX6_init_33
abbrev DX8 (G : Gx) (a z : Nat) (r1 : Nat) (H : Heap) : Prop := AT G a (.inr (8, [.ref r1, .ref (z + 0), .ref (z + 1), .ref (z + 2), .ref (z + 3), .ref (z + 4), .int (0)])) H ∧ AT G (z + 0) (.inl (G.2.2 0, 24, .inl (fun _ => 0))) H ∧ AT G (z + 1) (.inl (G.2.2 0, 24, .inl (fun _ => 0))) H ∧ AT G (z + 2) (.inl (G.2.2 0, 24, .inl (fun _ => 0))) H ∧ AT G (z + 3) (.inl (G.2.2 0, 24, .inl (fun _ => 0))) H ∧ AT G (z + 4) (.inl (G.2.2 0, 24, .inl (fun _ => 0))) H
theorem DX8.kept {G : Gx} {a z : Nat} {r1 : Nat} {H H1 : Heap} (h : DX8 G a z r1 H) (ho : ∀ q, (q = a ∨ (z ≤ q ∧ q < z + 5)) → H1[q]? = H[q]?) : DX8 G a z r1 H1 := ⟨va_at.kept (h.1) (ho _ (by first | (left; rfl) | (right; dsimp only; omega))), va_at.kept (h.2.1) (ho _ (by first | (left; rfl) | (right; dsimp only; omega))), va_at.kept (h.2.2.1) (ho _ (by first | (left; rfl) | (right; dsimp only; omega))), va_at.kept (h.2.2.2.1) (ho _ (by first | (left; rfl) | (right; dsimp only; omega))), va_at.kept (h.2.2.2.2.1) (ho _ (by first | (left; rfl) | (right; dsimp only; omega))), va_at.kept (h.2.2.2.2.2) (ho _ (by first | (left; rfl) | (right; dsimp only; omega)))⟩
abbrev QX8 (G : Gx) (a z : Nat) (r1 : Nat) (H : Heap) : Prop := H.size = z + 5 ∧ DX8 G a z r1 H
set_option maxHeartbeats 4000000 in
set_option maxRecDepth 100000 in
theorem i_X8 (l : Launch) (G : Gx) (a z : Nat) (r1 : Nat) (V : Nat → Value) : KM0 l yX8_init cX8_init 2 [.ref a, .ref r1] 1 5 120 (KS G z (fun H => a < z ∧ KO G 8 7 a V H)) (QX8 G a z r1) (fun q => q = a ∨ z ≤ q) := by
  refine met_ofK (own := RX8) (by decide +kernel) rfl [(0, .ref a), (1, .ref r1)] rfl (Nat.le_of_ble_eq_true rfl) ?_
  intro p e s m args below meth c ls hC hni hK hAO hz hP hl
  obtain ⟨haz, hO⟩ := hP
  have hni : meth.name = "<init>" := hni
  have hz : s.heap.size = z + 0 := hz
  have hS : va_S (fun q => q = a ∨ z ≤ q) s.heap s.heap [] := va_S.rf
  refine lv_aload_n hC.x hC.b dX8_init_0 rfl (lv_at hl 0 rfl) ?_
  refine kobj hC hl.1 TM_X8_3 TI_obj TC_obj dX8_init_1 (Nat.le_of_ble_eq_true rfl) (Nat.le_of_ble_eq_true rfl) ?_
  refine lv_aload_n hC.x hC.b dX8_init_4 rfl (lv_at hl 0 rfl) ?_
  refine lv_bipush (v := 24) hC.x hC.b dX8_init_5 (by decide) ?_
  refine knewi (h := z + 0) hC hK hS hz (N := 24) (by decide) rfl (Nat.le_of_ble_eq_true rfl) (Nat.le_of_ble_eq_true rfl) (Nat.le_of_ble_eq_true rfl) dX8_init_7 (fun H hN zN oN hS => ?_)
  replace hO := KO.kept hO (oN _ (by omega))
  have hN_1 : AT G (z + 0) (.inl (G.2.2 0, 24, .inl (fun _ => 0))) H := hN
  clear hN
  replace hz : H.size = z + 1 := by omega
  clear zN oN
  refine kputF hC hni hK hS (Or.inl rfl) hO rfl uin_X8 tyX8 tyX8_ok nmX8 1 (by decide) TF_X8_9 rfl rfl rfl rfl dX8_init_9 (fun H locs hO zN oN hS => ?_)
  replace hN_1 := va_at.kept hN_1 (oN _ (by omega))
  replace hz : H.size = z + 1 := by omega
  clear zN oN
  refine lv_aload_n hC.x hC.b dX8_init_12 rfl (lv_at hl 0 rfl) ?_
  refine lv_bipush (v := 24) hC.x hC.b dX8_init_13 (by decide) ?_
  refine knewi (h := z + 1) hC hK hS hz (N := 24) (by decide) rfl (Nat.le_of_ble_eq_true rfl) (Nat.le_of_ble_eq_true rfl) (Nat.le_of_ble_eq_true rfl) dX8_init_15 (fun H hN zN oN hS => ?_)
  replace hO := KO.kept hO (oN _ (by omega))
  replace hN_1 := va_at.kept hN_1 (oN _ (by omega))
  have hN_2 : AT G (z + 1) (.inl (G.2.2 0, 24, .inl (fun _ => 0))) H := hN
  clear hN
  replace hz : H.size = z + 2 := by omega
  clear zN oN
  refine kputF hC hni hK hS (Or.inl rfl) hO rfl uin_X8 tyX8 tyX8_ok nmX8 2 (by decide) TF_X8_15 rfl rfl rfl rfl dX8_init_17 (fun H locs hO zN oN hS => ?_)
  replace hN_1 := va_at.kept hN_1 (oN _ (by omega))
  replace hN_2 := va_at.kept hN_2 (oN _ (by omega))
  replace hz : H.size = z + 2 := by omega
  clear zN oN
  refine lv_aload_n hC.x hC.b dX8_init_20 rfl (lv_at hl 0 rfl) ?_
  refine lv_bipush (v := 24) hC.x hC.b dX8_init_21 (by decide) ?_
  refine knewi (h := z + 2) hC hK hS hz (N := 24) (by decide) rfl (Nat.le_of_ble_eq_true rfl) (Nat.le_of_ble_eq_true rfl) (Nat.le_of_ble_eq_true rfl) dX8_init_23 (fun H hN zN oN hS => ?_)
  replace hO := KO.kept hO (oN _ (by omega))
  replace hN_1 := va_at.kept hN_1 (oN _ (by omega))
  replace hN_2 := va_at.kept hN_2 (oN _ (by omega))
  have hN_3 : AT G (z + 2) (.inl (G.2.2 0, 24, .inl (fun _ => 0))) H := hN
  clear hN
  replace hz : H.size = z + 3 := by omega
  clear zN oN
  refine kputF hC hni hK hS (Or.inl rfl) hO rfl uin_X8 tyX8 tyX8_ok nmX8 3 (by decide) TF_X8_18 rfl rfl rfl rfl dX8_init_25 (fun H locs hO zN oN hS => ?_)
  replace hN_1 := va_at.kept hN_1 (oN _ (by omega))
  replace hN_2 := va_at.kept hN_2 (oN _ (by omega))
  replace hN_3 := va_at.kept hN_3 (oN _ (by omega))
  replace hz : H.size = z + 3 := by omega
  clear zN oN
  refine lv_aload_n hC.x hC.b dX8_init_28 rfl (lv_at hl 0 rfl) ?_
  refine lv_bipush (v := 24) hC.x hC.b dX8_init_29 (by decide) ?_
  refine knewi (h := z + 3) hC hK hS hz (N := 24) (by decide) rfl (Nat.le_of_ble_eq_true rfl) (Nat.le_of_ble_eq_true rfl) (Nat.le_of_ble_eq_true rfl) dX8_init_31 (fun H hN zN oN hS => ?_)
  replace hO := KO.kept hO (oN _ (by omega))
  replace hN_1 := va_at.kept hN_1 (oN _ (by omega))
  replace hN_2 := va_at.kept hN_2 (oN _ (by omega))
  replace hN_3 := va_at.kept hN_3 (oN _ (by omega))
  have hN_4 : AT G (z + 3) (.inl (G.2.2 0, 24, .inl (fun _ => 0))) H := hN
  clear hN
  replace hz : H.size = z + 4 := by omega
  clear zN oN
  refine kputF hC hni hK hS (Or.inl rfl) hO rfl uin_X8 tyX8 tyX8_ok nmX8 4 (by decide) TF_X8_21 rfl rfl rfl rfl dX8_init_33 (fun H locs hO zN oN hS => ?_)
  replace hN_1 := va_at.kept hN_1 (oN _ (by omega))
  replace hN_2 := va_at.kept hN_2 (oN _ (by omega))
  replace hN_3 := va_at.kept hN_3 (oN _ (by omega))
  replace hN_4 := va_at.kept hN_4 (oN _ (by omega))
  replace hz : H.size = z + 4 := by omega
  clear zN oN
  refine lv_aload_n hC.x hC.b dX8_init_36 rfl (lv_at hl 0 rfl) ?_
  refine lv_bipush (v := 24) hC.x hC.b dX8_init_37 (by decide) ?_
  refine knewi (h := z + 4) hC hK hS hz (N := 24) (by decide) rfl (Nat.le_of_ble_eq_true rfl) (Nat.le_of_ble_eq_true rfl) (Nat.le_of_ble_eq_true rfl) dX8_init_39 (fun H hN zN oN hS => ?_)
  replace hO := KO.kept hO (oN _ (by omega))
  replace hN_1 := va_at.kept hN_1 (oN _ (by omega))
  replace hN_2 := va_at.kept hN_2 (oN _ (by omega))
  replace hN_3 := va_at.kept hN_3 (oN _ (by omega))
  replace hN_4 := va_at.kept hN_4 (oN _ (by omega))
  have hN_5 : AT G (z + 4) (.inl (G.2.2 0, 24, .inl (fun _ => 0))) H := hN
  clear hN
  replace hz : H.size = z + 5 := by omega
  clear zN oN
  refine kputF hC hni hK hS (Or.inl rfl) hO rfl uin_X8 tyX8 tyX8_ok nmX8 5 (by decide) TF_X8_24 rfl rfl rfl rfl dX8_init_41 (fun H locs hO zN oN hS => ?_)
  replace hN_1 := va_at.kept hN_1 (oN _ (by omega))
  replace hN_2 := va_at.kept hN_2 (oN _ (by omega))
  replace hN_3 := va_at.kept hN_3 (oN _ (by omega))
  replace hN_4 := va_at.kept hN_4 (oN _ (by omega))
  replace hN_5 := va_at.kept hN_5 (oN _ (by omega))
  replace hz : H.size = z + 5 := by omega
  clear zN oN
  refine lv_aload_n hC.x hC.b dX8_init_44 rfl (lv_at hl 0 rfl) ?_
  refine lv_iconst (v := 0) hC.x hC.b dX8_init_45 (by decide) ?_
  refine kput hC hK hS (Or.inl rfl) hO rfl uin_X8 tyX8 tyX8_ok nmX8 6 (by decide) TF_X8_27 rfl rfl rfl dX8_init_46 (fun H locs hO zN oN hS => ?_)
  replace hN_1 := va_at.kept hN_1 (oN _ (by omega))
  replace hN_2 := va_at.kept hN_2 (oN _ (by omega))
  replace hN_3 := va_at.kept hN_3 (oN _ (by omega))
  replace hN_4 := va_at.kept hN_4 (oN _ (by omega))
  replace hN_5 := va_at.kept hN_5 (oN _ (by omega))
  replace hz : H.size = z + 5 := by omega
  clear zN oN
  refine lv_aload_n hC.x hC.b dX8_init_49 rfl (lv_at hl 0 rfl) ?_
  refine lv_aload_n hC.x hC.b dX8_init_50 rfl (lv_at hl 1 rfl) ?_
  refine kputF hC hni hK hS (Or.inl rfl) hO rfl uin_X8 tyX8 tyX8_ok nmX8 0 (by decide) TF_X8_31 rfl rfl rfl rfl dX8_init_51 (fun H locs hO zN oN hS => ?_)
  replace hN_1 := va_at.kept hN_1 (oN _ (by omega))
  replace hN_2 := va_at.kept hN_2 (oN _ (by omega))
  replace hN_3 := va_at.kept hN_3 (oN _ (by omega))
  replace hN_4 := va_at.kept hN_4 (oN _ (by omega))
  replace hN_5 := va_at.kept hN_5 (oN _ (by omega))
  replace hz : H.size = z + 5 := by omega
  clear zN oN
  exact kret hC hS ⟨by omega, ⟨_, rfl, hO.to (fun j hj => by rcases (show j = 0 ∨ j = 1 ∨ j = 2 ∨ j = 3 ∨ j = 4 ∨ j = 5 ∨ j = 6 by omega) with rfl | rfl | rfl | rfl | rfl | rfl | rfl <;> rfl)⟩, hN_1, hN_2, hN_3, hN_4, hN_5⟩ (Nat.le_of_ble_eq_true rfl) (Nat.le_of_ble_eq_true rfl) dX8_init_54
abbrev DX1 (G : Gx) (a z : Nat) (r1 : Nat) (r2 : Nat) (r3 : Nat) (r4 : Nat) (r5 : Nat) (H : Heap) : Prop := AT G a (.inr (1, [.ref r1, .ref r2, .ref r3, .ref r4, .ref r5, .ref (z + 0), .int (0)])) H ∧ AT G (z + 0) (.inl (G.2.2 0, 24, .inl (fun _ => 0))) H
theorem DX1.kept {G : Gx} {a z : Nat} {r1 : Nat} {r2 : Nat} {r3 : Nat} {r4 : Nat} {r5 : Nat} {H H1 : Heap} (h : DX1 G a z r1 r2 r3 r4 r5 H) (ho : ∀ q, (q = a ∨ (z ≤ q ∧ q < z + 1)) → H1[q]? = H[q]?) : DX1 G a z r1 r2 r3 r4 r5 H1 := ⟨va_at.kept (h.1) (ho _ (by first | (left; rfl) | (right; dsimp only; omega))), va_at.kept (h.2) (ho _ (by first | (left; rfl) | (right; dsimp only; omega)))⟩
abbrev QX1 (G : Gx) (a z : Nat) (r1 : Nat) (r2 : Nat) (r3 : Nat) (r4 : Nat) (r5 : Nat) (H : Heap) : Prop := H.size = z + 1 ∧ DX1 G a z r1 r2 r3 r4 r5 H
set_option maxHeartbeats 4000000 in
set_option maxRecDepth 100000 in
theorem i_X1 (l : Launch) (G : Gx) (a z : Nat) (r1 : Nat) (r2 : Nat) (r3 : Nat) (r4 : Nat) (r5 : Nat) (V : Nat → Value) : KM0 l yX1_init cX1_init 6 [.ref a, .ref r1, .ref r2, .ref r3, .ref r4, .ref r5] 1 1 24 (KS G z (fun H => a < z ∧ KO G 1 7 a V H)) (QX1 G a z r1 r2 r3 r4 r5) (fun q => q = a ∨ z ≤ q) := by
  refine met_ofK (own := RX1) (by decide +kernel) rfl [(0, .ref a), (1, .ref r1), (2, .ref r2), (3, .ref r3), (4, .ref r4), (5, .ref r5)] rfl (Nat.le_of_ble_eq_true rfl) ?_
  intro p e s m args below meth c ls hC hni hK hAO hz hP hl
  obtain ⟨haz, hO⟩ := hP
  have hni : meth.name = "<init>" := hni
  have hz : s.heap.size = z + 0 := hz
  have hS : va_S (fun q => q = a ∨ z ≤ q) s.heap s.heap [] := va_S.rf
  refine lv_aload_n hC.x hC.b dX1_init_0 rfl (lv_at hl 0 rfl) ?_
  refine kobj hC hl.1 TM_X1_3 TI_obj TC_obj dX1_init_1 (Nat.le_of_ble_eq_true rfl) (Nat.le_of_ble_eq_true rfl) ?_
  refine lv_aload_n hC.x hC.b dX1_init_4 rfl (lv_at hl 0 rfl) ?_
  refine lv_bipush (v := 24) hC.x hC.b dX1_init_5 (by decide) ?_
  refine knewi (h := z + 0) hC hK hS hz (N := 24) (by decide) rfl (Nat.le_of_ble_eq_true rfl) (Nat.le_of_ble_eq_true rfl) (Nat.le_of_ble_eq_true rfl) dX1_init_7 (fun H hN zN oN hS => ?_)
  replace hO := KO.kept hO (oN _ (by omega))
  have hN_1 : AT G (z + 0) (.inl (G.2.2 0, 24, .inl (fun _ => 0))) H := hN
  clear hN
  replace hz : H.size = z + 1 := by omega
  clear zN oN
  refine kputF hC hni hK hS (Or.inl rfl) hO rfl uin_X1 tyX1 tyX1_ok nmX1 5 (by decide) TF_X1_9 rfl rfl rfl rfl dX1_init_9 (fun H locs hO zN oN hS => ?_)
  replace hN_1 := va_at.kept hN_1 (oN _ (by omega))
  replace hz : H.size = z + 1 := by omega
  clear zN oN
  refine lv_aload_n hC.x hC.b dX1_init_12 rfl (lv_at hl 0 rfl) ?_
  refine lv_iconst (v := 0) hC.x hC.b dX1_init_13 (by decide) ?_
  refine kput hC hK hS (Or.inl rfl) hO rfl uin_X1 tyX1 tyX1_ok nmX1 6 (by decide) TF_X1_15 rfl rfl rfl dX1_init_14 (fun H locs hO zN oN hS => ?_)
  replace hN_1 := va_at.kept hN_1 (oN _ (by omega))
  replace hz : H.size = z + 1 := by omega
  clear zN oN
  refine lv_aload_n hC.x hC.b dX1_init_17 rfl (lv_at hl 0 rfl) ?_
  refine lv_aload_n hC.x hC.b dX1_init_18 rfl (lv_at hl 1 rfl) ?_
  refine kputF hC hni hK hS (Or.inl rfl) hO rfl uin_X1 tyX1 tyX1_ok nmX1 0 (by decide) TF_X1_19 rfl rfl rfl rfl dX1_init_19 (fun H locs hO zN oN hS => ?_)
  replace hN_1 := va_at.kept hN_1 (oN _ (by omega))
  replace hz : H.size = z + 1 := by omega
  clear zN oN
  refine lv_aload_n hC.x hC.b dX1_init_22 rfl (lv_at hl 0 rfl) ?_
  refine lv_aload_n hC.x hC.b dX1_init_23 rfl (lv_at hl 2 rfl) ?_
  refine kputF hC hni hK hS (Or.inl rfl) hO rfl uin_X1 tyX1 tyX1_ok nmX1 1 (by decide) TF_X1_23 rfl rfl rfl rfl dX1_init_24 (fun H locs hO zN oN hS => ?_)
  replace hN_1 := va_at.kept hN_1 (oN _ (by omega))
  replace hz : H.size = z + 1 := by omega
  clear zN oN
  refine lv_aload_n hC.x hC.b dX1_init_27 rfl (lv_at hl 0 rfl) ?_
  refine lv_aload_n hC.x hC.b dX1_init_28 rfl (lv_at hl 3 rfl) ?_
  refine kputF hC hni hK hS (Or.inl rfl) hO rfl uin_X1 tyX1 tyX1_ok nmX1 2 (by decide) TF_X1_27 rfl rfl rfl rfl dX1_init_29 (fun H locs hO zN oN hS => ?_)
  replace hN_1 := va_at.kept hN_1 (oN _ (by omega))
  replace hz : H.size = z + 1 := by omega
  clear zN oN
  refine lv_aload_n hC.x hC.b dX1_init_32 rfl (lv_at hl 0 rfl) ?_
  refine lv_aload hC.x hC.b dX1_init_33 (lv_at hl 4 rfl) ?_
  refine kputF hC hni hK hS (Or.inl rfl) hO rfl uin_X1 tyX1 tyX1_ok nmX1 3 (by decide) TF_X1_31 rfl rfl rfl rfl dX1_init_35 (fun H locs hO zN oN hS => ?_)
  replace hN_1 := va_at.kept hN_1 (oN _ (by omega))
  replace hz : H.size = z + 1 := by omega
  clear zN oN
  refine lv_aload_n hC.x hC.b dX1_init_38 rfl (lv_at hl 0 rfl) ?_
  refine lv_aload hC.x hC.b dX1_init_39 (lv_at hl 5 rfl) ?_
  refine kputF hC hni hK hS (Or.inl rfl) hO rfl uin_X1 tyX1 tyX1_ok nmX1 4 (by decide) TF_X1_35 rfl rfl rfl rfl dX1_init_41 (fun H locs hO zN oN hS => ?_)
  replace hN_1 := va_at.kept hN_1 (oN _ (by omega))
  replace hz : H.size = z + 1 := by omega
  clear zN oN
  exact kret hC hS ⟨by omega, ⟨_, rfl, hO.to (fun j hj => by rcases (show j = 0 ∨ j = 1 ∨ j = 2 ∨ j = 3 ∨ j = 4 ∨ j = 5 ∨ j = 6 by omega) with rfl | rfl | rfl | rfl | rfl | rfl | rfl <;> rfl)⟩, hN_1⟩ (Nat.le_of_ble_eq_true rfl) (Nat.le_of_ble_eq_true rfl) dX1_init_44
abbrev DX2 (G : Gx) (a z : Nat) (r1 : Nat) (H : Heap) : Prop := AT G a (.inr (2, [.ref r1, .ref (z + 0), .ref (z + 1), .long (0), .int (0), .long (0), .long (0)])) H ∧ DX3 G (z + 0) (z + 1) H ∧ DX3 G (z + 1) (z + 2) H
theorem DX2.kept {G : Gx} {a z : Nat} {r1 : Nat} {H H1 : Heap} (h : DX2 G a z r1 H) (ho : ∀ q, (q = a ∨ (z ≤ q ∧ q < z + 2)) → H1[q]? = H[q]?) : DX2 G a z r1 H1 := ⟨va_at.kept (h.1) (ho _ (by first | (left; rfl) | (right; dsimp only; omega))), DX3.kept (h.2.1) (fun q hq => ho q (by omega)), DX3.kept (h.2.2) (fun q hq => ho q (by omega))⟩
abbrev QX2 (G : Gx) (a z : Nat) (r1 : Nat) (H : Heap) : Prop := H.size = z + 2 ∧ DX2 G a z r1 H
set_option maxHeartbeats 4000000 in
set_option maxRecDepth 100000 in
theorem i_X2 (l : Launch) (G : Gx) (a z : Nat) (r1 : Nat) (V : Nat → Value) : KM0 l yX2_init cX2_init 2 [.ref a, .ref r1] 2 2 10 (KS G z (fun H => a < z ∧ KO G 2 7 a V H)) (QX2 G a z r1) (fun q => q = a ∨ z ≤ q) := by
  refine met_ofK (own := RX2) (by decide +kernel) rfl [(0, .ref a), (1, .ref r1)] rfl (Nat.le_of_ble_eq_true rfl) ?_
  intro p e s m args below meth c ls hC hni hK hAO hz hP hl
  obtain ⟨haz, hO⟩ := hP
  have hni : meth.name = "<init>" := hni
  have hz : s.heap.size = z + 0 := hz
  have hS : va_S (fun q => q = a ∨ z ≤ q) s.heap s.heap [] := va_S.rf
  refine lv_aload_n hC.x hC.b dX2_init_0 rfl (lv_at hl 0 rfl) ?_
  refine kobj hC hl.1 TM_X2_3 TI_obj TC_obj dX2_init_1 (Nat.le_of_ble_eq_true rfl) (Nat.le_of_ble_eq_true rfl) ?_
  refine lv_aload_n hC.x hC.b dX2_init_4 rfl (lv_at hl 0 rfl) ?_
  refine knew (ci := 3) (h := z + 0) hC hK hS hz rfl uin_X3 tyX3 tyX3_ok TL_X2_9 TB_X3 TN_X3 (Nat.le_of_ble_eq_true rfl) (Nat.le_of_ble_eq_true rfl) dX2_init_5 (fun H hN zN oN hS => ?_)
  replace hO := KO.kept hO (oN _ (by omega))
  have hN_1 := hN
  clear hN
  replace hz : H.size = z + 1 := by omega
  clear zN oN
  refine lv_dup hC.x hC.b dX2_init_8 rfl ?_
  refine kinitN (As := []) (rest := [.ref (z + 0), .ref a]) (h := z + 1) hC hl.1 hS hz hK hAO (i_X3 l G (z + 0) (z + 1) (fun k => defaultValue (tyX3 k))) (kcn hC.ts TC_X3_init TN_X3 hK.2.2.2.1 hd_X3_init ⟨(Nat.le_of_ble_eq_true rfl), (Nat.le_of_ble_eq_true rfl)⟩) rfl TI_X3_init ⟨by omega, hN_1⟩ rfl rfl (Nat.le_of_ble_eq_true rfl) dX2_init_9 ⟨(Nat.le_of_ble_eq_true rfl), (Nat.le_of_ble_eq_true rfl)⟩ (fun q hq => yfree (by omega) (by omega) hq) (fun H locs hQ oN hS => ?_)
  replace hO := KO.kept hO (oN _ (by omega) (nfree (by omega) (by omega)))
  obtain ⟨hz2, hq_2⟩ := hQ
  replace hz : H.size = z + 1 := by omega
  clear oN hz2
  refine kputF hC hni hK hS (Or.inl rfl) hO rfl uin_X2 tyX2 tyX2_ok nmX2 1 (by decide) TF_X2_12 rfl rfl rfl rfl dX2_init_12 (fun H locs hO zN oN hS => ?_)
  replace hq_2 := DX3.kept hq_2 (fun q hq => (oN q (by omega)))
  replace hz : H.size = z + 1 := by omega
  clear zN oN
  refine lv_aload_n hC.x hC.b dX2_init_15 rfl (lv_at hl 0 rfl) ?_
  refine knew (ci := 3) (h := z + 1) hC hK hS hz rfl uin_X3 tyX3 tyX3_ok TL_X2_9 TB_X3 TN_X3 (Nat.le_of_ble_eq_true rfl) (Nat.le_of_ble_eq_true rfl) dX2_init_16 (fun H hN zN oN hS => ?_)
  replace hO := KO.kept hO (oN _ (by omega))
  replace hq_2 := DX3.kept hq_2 (fun q hq => (oN q (by omega)))
  have hN_3 := hN
  clear hN
  replace hz : H.size = z + 2 := by omega
  clear zN oN
  refine lv_dup hC.x hC.b dX2_init_19 rfl ?_
  refine kinitN (As := []) (rest := [.ref (z + 1), .ref a]) (h := z + 2) hC hl.1 hS hz hK hAO (i_X3 l G (z + 1) (z + 2) (fun k => defaultValue (tyX3 k))) (kcn hC.ts TC_X3_init TN_X3 hK.2.2.2.1 hd_X3_init ⟨(Nat.le_of_ble_eq_true rfl), (Nat.le_of_ble_eq_true rfl)⟩) rfl TI_X3_init ⟨by omega, hN_3⟩ rfl rfl (Nat.le_of_ble_eq_true rfl) dX2_init_20 ⟨(Nat.le_of_ble_eq_true rfl), (Nat.le_of_ble_eq_true rfl)⟩ (fun q hq => yfree (by omega) (by omega) hq) (fun H locs hQ oN hS => ?_)
  replace hO := KO.kept hO (oN _ (by omega) (nfree (by omega) (by omega)))
  replace hq_2 := DX3.kept hq_2 (fun q hq => (oN q (by omega) (nfree (by omega) (by omega))))
  obtain ⟨hz2, hq_4⟩ := hQ
  replace hz : H.size = z + 2 := by omega
  clear oN hz2
  refine kputF hC hni hK hS (Or.inl rfl) hO rfl uin_X2 tyX2 tyX2_ok nmX2 2 (by decide) TF_X2_18 rfl rfl rfl rfl dX2_init_23 (fun H locs hO zN oN hS => ?_)
  replace hq_2 := DX3.kept hq_2 (fun q hq => (oN q (by omega)))
  replace hq_4 := DX3.kept hq_4 (fun q hq => (oN q (by omega)))
  replace hz : H.size = z + 2 := by omega
  clear zN oN
  refine lv_aload_n hC.x hC.b dX2_init_26 rfl (lv_at hl 0 rfl) ?_
  refine lv_lconst (v := 0) hC.x hC.b dX2_init_27 (by decide) ?_
  refine kput hC hK hS (Or.inl rfl) hO rfl uin_X2 tyX2 tyX2_ok nmX2 3 (by decide) TF_X2_21 rfl rfl rfl dX2_init_28 (fun H locs hO zN oN hS => ?_)
  replace hq_2 := DX3.kept hq_2 (fun q hq => (oN q (by omega)))
  replace hq_4 := DX3.kept hq_4 (fun q hq => (oN q (by omega)))
  replace hz : H.size = z + 2 := by omega
  clear zN oN
  refine lv_aload_n hC.x hC.b dX2_init_31 rfl (lv_at hl 0 rfl) ?_
  refine lv_iconst (v := 0) hC.x hC.b dX2_init_32 (by decide) ?_
  refine kput hC hK hS (Or.inl rfl) hO rfl uin_X2 tyX2 tyX2_ok nmX2 4 (by decide) TF_X2_25 rfl rfl rfl dX2_init_33 (fun H locs hO zN oN hS => ?_)
  replace hq_2 := DX3.kept hq_2 (fun q hq => (oN q (by omega)))
  replace hq_4 := DX3.kept hq_4 (fun q hq => (oN q (by omega)))
  replace hz : H.size = z + 2 := by omega
  clear zN oN
  refine lv_aload_n hC.x hC.b dX2_init_36 rfl (lv_at hl 0 rfl) ?_
  refine lv_lconst (v := 0) hC.x hC.b dX2_init_37 (by decide) ?_
  refine kput hC hK hS (Or.inl rfl) hO rfl uin_X2 tyX2 tyX2_ok nmX2 5 (by decide) TF_X2_29 rfl rfl rfl dX2_init_38 (fun H locs hO zN oN hS => ?_)
  replace hq_2 := DX3.kept hq_2 (fun q hq => (oN q (by omega)))
  replace hq_4 := DX3.kept hq_4 (fun q hq => (oN q (by omega)))
  replace hz : H.size = z + 2 := by omega
  clear zN oN
  refine lv_aload_n hC.x hC.b dX2_init_41 rfl (lv_at hl 0 rfl) ?_
  refine lv_lconst (v := 0) hC.x hC.b dX2_init_42 (by decide) ?_
  refine kput hC hK hS (Or.inl rfl) hO rfl uin_X2 tyX2 tyX2_ok nmX2 6 (by decide) TF_X2_32 rfl rfl rfl dX2_init_43 (fun H locs hO zN oN hS => ?_)
  replace hq_2 := DX3.kept hq_2 (fun q hq => (oN q (by omega)))
  replace hq_4 := DX3.kept hq_4 (fun q hq => (oN q (by omega)))
  replace hz : H.size = z + 2 := by omega
  clear zN oN
  refine lv_aload_n hC.x hC.b dX2_init_46 rfl (lv_at hl 0 rfl) ?_
  refine lv_aload_n hC.x hC.b dX2_init_47 rfl (lv_at hl 1 rfl) ?_
  refine kputF hC hni hK hS (Or.inl rfl) hO rfl uin_X2 tyX2 tyX2_ok nmX2 0 (by decide) TF_X2_35 rfl rfl rfl rfl dX2_init_48 (fun H locs hO zN oN hS => ?_)
  replace hq_2 := DX3.kept hq_2 (fun q hq => (oN q (by omega)))
  replace hq_4 := DX3.kept hq_4 (fun q hq => (oN q (by omega)))
  replace hz : H.size = z + 2 := by omega
  clear zN oN
  exact kret hC hS ⟨by omega, ⟨_, rfl, hO.to (fun j hj => by rcases (show j = 0 ∨ j = 1 ∨ j = 2 ∨ j = 3 ∨ j = 4 ∨ j = 5 ∨ j = 6 by omega) with rfl | rfl | rfl | rfl | rfl | rfl | rfl <;> rfl)⟩, hq_2, hq_4⟩ (Nat.le_of_ble_eq_true rfl) (Nat.le_of_ble_eq_true rfl) dX2_init_51
