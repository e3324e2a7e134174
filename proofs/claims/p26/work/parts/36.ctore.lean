def c10 (G : Gx) : Nat → va_E
  | 0 => .inl (G.2.2 0, 24, .inl (fun _ => -1))
  | 1 => .inl (G.2.2 0, 24, .inl (fun _ => 0))
  | 2 => .inl (G.2.2 0, 24, .inl (fun _ => 0))
  | 3 => .inl (G.2.2 1, 24, .inl (fun _ => 0))
  | 4 => .inl (G.2.2 1, 24, .inl (fun _ => 0))
  | 5 => .inl (G.2.2 1, 24, .inl (fun _ => 0))
  | 6 => .inl (G.2.2 0, 24, .inl (fun _ => 0))
  | 7 => .inl (G.2.2 0, 24, .inl (fun _ => 0))
  | 8 => .inl (G.2.2 0, 24, .inl (fun _ => 0))
  | 9 => .inl (G.2.2 0, 24, .inl (fun _ => 0))
  | 10 => .inl (G.2.2 0, 24, .inl (fun _ => 0))
  | 11 => .inl (G.2.2 0, 24, .inl (fun _ => 0))
  | 12 => .inl (G.2.2 0, 4824, .inl (fun _ => 0))
  | 13 => .inl (G.2.2 0, 4824, .inl (fun _ => 0))
  | 14 => .inl (G.2.2 1, 4824, .inl (fun _ => 0))
  | 15 => .inl (G.2.2 1, 4824, .inl (fun _ => 0))
  | 16 => .inl (G.2.2 1, 4824, .inl (fun _ => 0))
  | 17 => .inl (G.2.2 1, 4824, .inl (fun _ => 0))
  | 18 => .inl (G.2.2 0, 4824, .inl (fun _ => 0))
  | 19 => .inl (G.2.2 0, 4824, .inl (fun _ => 0))
  | 20 => .inl (G.2.2 0, 4824, .inl (fun _ => 0))
  | 21 => .inl (G.2.2 0, 4824, .inl (fun _ => 0))
  | 22 => .inl (G.2.2 0, 4824, .inl (fun _ => 0))
  | 23 => .inl (G.2.2 0, 201, .inl (fun _ => 0))
  | 24 => .inl (G.2.2 0, 201, .inl (fun _ => 0))
  | 25 => .inl (G.2.2 0, 201, .inl (fun _ => 0))
  | 26 => .inl (G.2.2 0, 201, .inl (fun _ => 0))
  | 27 => .inl (G.2.2 0, 201, .inl (fun _ => 0))
  | 28 => .inl (G.2.2 0, 201, .inl (fun _ => 0))
  | 29 => .inl (G.2.2 0, 100, .inl (fun _ => 0))
  | 30 => .inl (G.2.2 0, 100, .inl (fun _ => 0))
  | 31 => .inl (G.2.2 0, 100, .inl (fun _ => 0))
  | 32 => .inl (G.2.2 0, 24, .inl (fun _ => 0))
  | 33 => .inl (G.2.2 0, 24, .inl (fun _ => 0))
  | 34 => .inl (G.2.2 0, 24, .inl (fun _ => 0))
  | 35 => .inl (G.2.2 1, 24, .inl (fun _ => 0))
  | _ => .inr (0, [])
abbrev DX10 (G : Gx) (a z : Nat) (H : Heap) : Prop := AT G a (.inr (10, [.ref (z + 0), .ref (z + 1), .ref (z + 2), .ref (z + 3), .ref (z + 4), .ref (z + 5), .ref (z + 6), .ref (z + 7), .ref (z + 8), .ref (z + 9), .ref (z + 10), .ref (z + 11), .ref (z + 12), .ref (z + 13), .ref (z + 14), .ref (z + 15), .ref (z + 16), .ref (z + 17), .ref (z + 18), .ref (z + 19), .ref (z + 20), .ref (z + 21), .ref (z + 22), .ref (z + 23), .ref (z + 24), .ref (z + 25), .ref (z + 26), .ref (z + 27), .ref (z + 28), .int (0), .int (40), .int (5), .int (10), .int (0), .ref (z + 29), .ref (z + 30), .ref (z + 31), .int (0), .ref (z + 32), .ref (z + 33), .ref (z + 34), .int (0), .int (0), .int (0), .int (0), .long (0), .long (0), .long (0), .ref (z + 35)])) H ∧ (∀ k, k < 36 → AT G (z + k) (c10 G k) H)
theorem DX10.kept {G : Gx} {a z : Nat} {H H1 : Heap} (h : DX10 G a z H) (ho : ∀ q, (q = a ∨ (z ≤ q ∧ q < z + 36)) → H1[q]? = H[q]?) : DX10 G a z H1 := ⟨va_at.kept (h.1) (ho _ (by first | (left; rfl) | (right; dsimp only; omega))), fam_kept (h.2) (fun q h1 h2 => ho q (by omega))⟩
abbrev QX10 (G : Gx) (a z : Nat) (H : Heap) : Prop := H.size = z + 36 ∧ DX10 G a z H
set_option maxHeartbeats 4000000 in
set_option maxRecDepth 100000 in
theorem i_X10 (l : Launch) (G : Gx) (a z : Nat) : KM0 l yX10_init cX10_init 1 [.ref a] 1 36 54954 (KS G z (fun H => a < z ∧ KO G 10 49 a (fun k => defaultValue (tyX10 k)) H)) (QX10 G a z) (fun q => q = a ∨ z ≤ q) := by
  refine met_ofK (own := RX10) (by decide +kernel) rfl [(0, .ref a)] rfl (Nat.le_of_ble_eq_true rfl) ?_
  intro p e s m args below meth c ls hC hni hK hAO hz hP hl
  obtain ⟨haz, hO⟩ := hP
  have hni : meth.name = "<init>" := hni
  have hz : s.heap.size = z + 0 := hz
  have hS : va_S (fun q => q = a ∨ z ≤ q) s.heap s.heap [] := va_S.rf
  refine lv_aload_n hC.x hC.b dX10_init_0 rfl (lv_at hl 0 rfl) ?_
  refine kobj hC hl.1 TM_X10_1 TI_obj TC_obj dX10_init_1 (Nat.le_of_ble_eq_true rfl) (Nat.le_of_ble_eq_true rfl) ?_
  refine lv_aload_n hC.x hC.b dX10_init_4 rfl (lv_at hl 0 rfl) ?_
  refine lv_bipush (v := 24) hC.x hC.b dX10_init_5 (by decide) ?_
  refine knewi (h := z + 0) hC hK hS hz (N := 24) (by decide) rfl (Nat.le_of_ble_eq_true rfl) (Nat.le_of_ble_eq_true rfl) (Nat.le_of_ble_eq_true rfl) dX10_init_7 (fun H hN zN oN hS => ?_)
  replace hO := KO.kept hO (oN _ (by omega))
  have hN_1 : AT G (z + 0) (.inl (G.2.2 0, 24, .inl (fun _ => 0))) H := hN
  clear hN
  replace hz : H.size = z + 1 := by omega
  clear zN oN
  refine lv_dup hC.x hC.b dX10_init_9 rfl ?_
  refine lv_iconst (v := 0) hC.x hC.b dX10_init_10 (by decide) ?_
  refine lv_iconst (v := (-1)) hC.x hC.b dX10_init_11 (by decide) ?_
  refine kiast (a := (z + 0)) (n := 24) hC hK hS (Or.inr (by omega)) hN_1 (vin (t := 0) (by decide) (by decide) (by decide)) dX10_init_12 (fun H locs hN_1 zN oN hS => ?_)
  replace hO := KO.kept hO (oN _ (by omega))
  replace hz : H.size = z + 1 := by omega
  clear zN oN
  refine lv_dup hC.x hC.b dX10_init_13 rfl ?_
  refine lv_iconst (v := 1) hC.x hC.b dX10_init_14 (by decide) ?_
  refine lv_iconst (v := (-1)) hC.x hC.b dX10_init_15 (by decide) ?_
  refine kiast (a := (z + 0)) (n := 24) hC hK hS (Or.inr (by omega)) hN_1 (vin (t := 1) (by decide) (by decide) (by decide)) dX10_init_16 (fun H locs hN_1 zN oN hS => ?_)
  replace hO := KO.kept hO (oN _ (by omega))
  replace hz : H.size = z + 1 := by omega
  clear zN oN
  refine lv_dup hC.x hC.b dX10_init_17 rfl ?_
  refine lv_iconst (v := 2) hC.x hC.b dX10_init_18 (by decide) ?_
  refine lv_iconst (v := (-1)) hC.x hC.b dX10_init_19 (by decide) ?_
  refine kiast (a := (z + 0)) (n := 24) hC hK hS (Or.inr (by omega)) hN_1 (vin (t := 2) (by decide) (by decide) (by decide)) dX10_init_20 (fun H locs hN_1 zN oN hS => ?_)
  replace hO := KO.kept hO (oN _ (by omega))
  replace hz : H.size = z + 1 := by omega
  clear zN oN
  refine lv_dup hC.x hC.b dX10_init_21 rfl ?_
  refine lv_iconst (v := 3) hC.x hC.b dX10_init_22 (by decide) ?_
  refine lv_iconst (v := (-1)) hC.x hC.b dX10_init_23 (by decide) ?_
  refine kiast (a := (z + 0)) (n := 24) hC hK hS (Or.inr (by omega)) hN_1 (vin (t := 3) (by decide) (by decide) (by decide)) dX10_init_24 (fun H locs hN_1 zN oN hS => ?_)
  replace hO := KO.kept hO (oN _ (by omega))
  replace hz : H.size = z + 1 := by omega
  clear zN oN
  refine lv_dup hC.x hC.b dX10_init_25 rfl ?_
  refine lv_iconst (v := 4) hC.x hC.b dX10_init_26 (by decide) ?_
  refine lv_iconst (v := (-1)) hC.x hC.b dX10_init_27 (by decide) ?_
  refine kiast (a := (z + 0)) (n := 24) hC hK hS (Or.inr (by omega)) hN_1 (vin (t := 4) (by decide) (by decide) (by decide)) dX10_init_28 (fun H locs hN_1 zN oN hS => ?_)
  replace hO := KO.kept hO (oN _ (by omega))
  replace hz : H.size = z + 1 := by omega
  clear zN oN
  refine lv_dup hC.x hC.b dX10_init_29 rfl ?_
  refine lv_iconst (v := 5) hC.x hC.b dX10_init_30 (by decide) ?_
  refine lv_iconst (v := (-1)) hC.x hC.b dX10_init_31 (by decide) ?_
  refine kiast (a := (z + 0)) (n := 24) hC hK hS (Or.inr (by omega)) hN_1 (vin (t := 5) (by decide) (by decide) (by decide)) dX10_init_32 (fun H locs hN_1 zN oN hS => ?_)
  replace hO := KO.kept hO (oN _ (by omega))
  replace hz : H.size = z + 1 := by omega
  clear zN oN
  refine lv_dup hC.x hC.b dX10_init_33 rfl ?_
  refine lv_bipush (v := 6) hC.x hC.b dX10_init_34 (by decide) ?_
  refine lv_iconst (v := (-1)) hC.x hC.b dX10_init_36 (by decide) ?_
  refine kiast (a := (z + 0)) (n := 24) hC hK hS (Or.inr (by omega)) hN_1 (vin (t := 6) (by decide) (by decide) (by decide)) dX10_init_37 (fun H locs hN_1 zN oN hS => ?_)
  replace hO := KO.kept hO (oN _ (by omega))
  replace hz : H.size = z + 1 := by omega
  clear zN oN
  refine lv_dup hC.x hC.b dX10_init_38 rfl ?_
  refine lv_bipush (v := 7) hC.x hC.b dX10_init_39 (by decide) ?_
  refine lv_iconst (v := (-1)) hC.x hC.b dX10_init_41 (by decide) ?_
  refine kiast (a := (z + 0)) (n := 24) hC hK hS (Or.inr (by omega)) hN_1 (vin (t := 7) (by decide) (by decide) (by decide)) dX10_init_42 (fun H locs hN_1 zN oN hS => ?_)
  replace hO := KO.kept hO (oN _ (by omega))
  replace hz : H.size = z + 1 := by omega
  clear zN oN
  refine lv_dup hC.x hC.b dX10_init_43 rfl ?_
  refine lv_bipush (v := 8) hC.x hC.b dX10_init_44 (by decide) ?_
  refine lv_iconst (v := (-1)) hC.x hC.b dX10_init_46 (by decide) ?_
  refine kiast (a := (z + 0)) (n := 24) hC hK hS (Or.inr (by omega)) hN_1 (vin (t := 8) (by decide) (by decide) (by decide)) dX10_init_47 (fun H locs hN_1 zN oN hS => ?_)
  replace hO := KO.kept hO (oN _ (by omega))
  replace hz : H.size = z + 1 := by omega
  clear zN oN
  refine lv_dup hC.x hC.b dX10_init_48 rfl ?_
  refine lv_bipush (v := 9) hC.x hC.b dX10_init_49 (by decide) ?_
  refine lv_iconst (v := (-1)) hC.x hC.b dX10_init_51 (by decide) ?_
  refine kiast (a := (z + 0)) (n := 24) hC hK hS (Or.inr (by omega)) hN_1 (vin (t := 9) (by decide) (by decide) (by decide)) dX10_init_52 (fun H locs hN_1 zN oN hS => ?_)
  replace hO := KO.kept hO (oN _ (by omega))
  replace hz : H.size = z + 1 := by omega
  clear zN oN
  refine lv_dup hC.x hC.b dX10_init_53 rfl ?_
  refine lv_bipush (v := 10) hC.x hC.b dX10_init_54 (by decide) ?_
  refine lv_iconst (v := (-1)) hC.x hC.b dX10_init_56 (by decide) ?_
  refine kiast (a := (z + 0)) (n := 24) hC hK hS (Or.inr (by omega)) hN_1 (vin (t := 10) (by decide) (by decide) (by decide)) dX10_init_57 (fun H locs hN_1 zN oN hS => ?_)
  replace hO := KO.kept hO (oN _ (by omega))
  replace hz : H.size = z + 1 := by omega
  clear zN oN
  refine lv_dup hC.x hC.b dX10_init_58 rfl ?_
  refine lv_bipush (v := 11) hC.x hC.b dX10_init_59 (by decide) ?_
  refine lv_iconst (v := (-1)) hC.x hC.b dX10_init_61 (by decide) ?_
  refine kiast (a := (z + 0)) (n := 24) hC hK hS (Or.inr (by omega)) hN_1 (vin (t := 11) (by decide) (by decide) (by decide)) dX10_init_62 (fun H locs hN_1 zN oN hS => ?_)
  replace hO := KO.kept hO (oN _ (by omega))
  replace hz : H.size = z + 1 := by omega
  clear zN oN
  refine lv_dup hC.x hC.b dX10_init_63 rfl ?_
  refine lv_bipush (v := 12) hC.x hC.b dX10_init_64 (by decide) ?_
  refine lv_iconst (v := (-1)) hC.x hC.b dX10_init_66 (by decide) ?_
  refine kiast (a := (z + 0)) (n := 24) hC hK hS (Or.inr (by omega)) hN_1 (vin (t := 12) (by decide) (by decide) (by decide)) dX10_init_67 (fun H locs hN_1 zN oN hS => ?_)
  replace hO := KO.kept hO (oN _ (by omega))
  replace hz : H.size = z + 1 := by omega
  clear zN oN
  refine lv_dup hC.x hC.b dX10_init_68 rfl ?_
  refine lv_bipush (v := 13) hC.x hC.b dX10_init_69 (by decide) ?_
  refine lv_iconst (v := (-1)) hC.x hC.b dX10_init_71 (by decide) ?_
  refine kiast (a := (z + 0)) (n := 24) hC hK hS (Or.inr (by omega)) hN_1 (vin (t := 13) (by decide) (by decide) (by decide)) dX10_init_72 (fun H locs hN_1 zN oN hS => ?_)
  replace hO := KO.kept hO (oN _ (by omega))
  replace hz : H.size = z + 1 := by omega
  clear zN oN
  refine lv_dup hC.x hC.b dX10_init_73 rfl ?_
  refine lv_bipush (v := 14) hC.x hC.b dX10_init_74 (by decide) ?_
  refine lv_iconst (v := (-1)) hC.x hC.b dX10_init_76 (by decide) ?_
  refine kiast (a := (z + 0)) (n := 24) hC hK hS (Or.inr (by omega)) hN_1 (vin (t := 14) (by decide) (by decide) (by decide)) dX10_init_77 (fun H locs hN_1 zN oN hS => ?_)
  replace hO := KO.kept hO (oN _ (by omega))
  replace hz : H.size = z + 1 := by omega
  clear zN oN
  refine lv_dup hC.x hC.b dX10_init_78 rfl ?_
  refine lv_bipush (v := 15) hC.x hC.b dX10_init_79 (by decide) ?_
  refine lv_iconst (v := (-1)) hC.x hC.b dX10_init_81 (by decide) ?_
  refine kiast (a := (z + 0)) (n := 24) hC hK hS (Or.inr (by omega)) hN_1 (vin (t := 15) (by decide) (by decide) (by decide)) dX10_init_82 (fun H locs hN_1 zN oN hS => ?_)
  replace hO := KO.kept hO (oN _ (by omega))
  replace hz : H.size = z + 1 := by omega
  clear zN oN
  refine lv_dup hC.x hC.b dX10_init_83 rfl ?_
  refine lv_bipush (v := 16) hC.x hC.b dX10_init_84 (by decide) ?_
  refine lv_iconst (v := (-1)) hC.x hC.b dX10_init_86 (by decide) ?_
  refine kiast (a := (z + 0)) (n := 24) hC hK hS (Or.inr (by omega)) hN_1 (vin (t := 16) (by decide) (by decide) (by decide)) dX10_init_87 (fun H locs hN_1 zN oN hS => ?_)
  replace hO := KO.kept hO (oN _ (by omega))
  replace hz : H.size = z + 1 := by omega
  clear zN oN
  refine lv_dup hC.x hC.b dX10_init_88 rfl ?_
  refine lv_bipush (v := 17) hC.x hC.b dX10_init_89 (by decide) ?_
  refine lv_iconst (v := (-1)) hC.x hC.b dX10_init_91 (by decide) ?_
  refine kiast (a := (z + 0)) (n := 24) hC hK hS (Or.inr (by omega)) hN_1 (vin (t := 17) (by decide) (by decide) (by decide)) dX10_init_92 (fun H locs hN_1 zN oN hS => ?_)
  replace hO := KO.kept hO (oN _ (by omega))
  replace hz : H.size = z + 1 := by omega
  clear zN oN
  refine lv_dup hC.x hC.b dX10_init_93 rfl ?_
  refine lv_bipush (v := 18) hC.x hC.b dX10_init_94 (by decide) ?_
  refine lv_iconst (v := (-1)) hC.x hC.b dX10_init_96 (by decide) ?_
  refine kiast (a := (z + 0)) (n := 24) hC hK hS (Or.inr (by omega)) hN_1 (vin (t := 18) (by decide) (by decide) (by decide)) dX10_init_97 (fun H locs hN_1 zN oN hS => ?_)
  replace hO := KO.kept hO (oN _ (by omega))
  replace hz : H.size = z + 1 := by omega
  clear zN oN
  refine lv_dup hC.x hC.b dX10_init_98 rfl ?_
  refine lv_bipush (v := 19) hC.x hC.b dX10_init_99 (by decide) ?_
  refine lv_iconst (v := (-1)) hC.x hC.b dX10_init_101 (by decide) ?_
  refine kiast (a := (z + 0)) (n := 24) hC hK hS (Or.inr (by omega)) hN_1 (vin (t := 19) (by decide) (by decide) (by decide)) dX10_init_102 (fun H locs hN_1 zN oN hS => ?_)
  replace hO := KO.kept hO (oN _ (by omega))
  replace hz : H.size = z + 1 := by omega
  clear zN oN
  refine lv_dup hC.x hC.b dX10_init_103 rfl ?_
  refine lv_bipush (v := 20) hC.x hC.b dX10_init_104 (by decide) ?_
  refine lv_iconst (v := (-1)) hC.x hC.b dX10_init_106 (by decide) ?_
  refine kiast (a := (z + 0)) (n := 24) hC hK hS (Or.inr (by omega)) hN_1 (vin (t := 20) (by decide) (by decide) (by decide)) dX10_init_107 (fun H locs hN_1 zN oN hS => ?_)
  replace hO := KO.kept hO (oN _ (by omega))
  replace hz : H.size = z + 1 := by omega
  clear zN oN
  refine lv_dup hC.x hC.b dX10_init_108 rfl ?_
  refine lv_bipush (v := 21) hC.x hC.b dX10_init_109 (by decide) ?_
  refine lv_iconst (v := (-1)) hC.x hC.b dX10_init_111 (by decide) ?_
  refine kiast (a := (z + 0)) (n := 24) hC hK hS (Or.inr (by omega)) hN_1 (vin (t := 21) (by decide) (by decide) (by decide)) dX10_init_112 (fun H locs hN_1 zN oN hS => ?_)
  replace hO := KO.kept hO (oN _ (by omega))
  replace hz : H.size = z + 1 := by omega
  clear zN oN
  refine lv_dup hC.x hC.b dX10_init_113 rfl ?_
  refine lv_bipush (v := 22) hC.x hC.b dX10_init_114 (by decide) ?_
  refine lv_iconst (v := (-1)) hC.x hC.b dX10_init_116 (by decide) ?_
  refine kiast (a := (z + 0)) (n := 24) hC hK hS (Or.inr (by omega)) hN_1 (vin (t := 22) (by decide) (by decide) (by decide)) dX10_init_117 (fun H locs hN_1 zN oN hS => ?_)
  replace hO := KO.kept hO (oN _ (by omega))
  replace hz : H.size = z + 1 := by omega
  clear zN oN
  refine lv_dup hC.x hC.b dX10_init_118 rfl ?_
  refine lv_bipush (v := 23) hC.x hC.b dX10_init_119 (by decide) ?_
  refine lv_iconst (v := (-1)) hC.x hC.b dX10_init_121 (by decide) ?_
  refine kiast (a := (z + 0)) (n := 24) hC hK hS (Or.inr (by omega)) hN_1 (vin (t := 23) (by decide) (by decide) (by decide)) dX10_init_122 (fun H locs hN_1 zN oN hS => ?_)
  replace hO := KO.kept hO (oN _ (by omega))
  replace hz : H.size = z + 1 := by omega
  clear zN oN
  have hN_1 : AT G (z + 0) (.inl (G.2.2 0, 24, .inl (fun _ => -1))) H := ki_congr hN_1 (by decide +kernel)
  have hF := fam_ext (n := 0) (f := c10 G) (fun k hk => absurd hk (Nat.not_lt_zero k)) hN_1
  clear hN_1
  refine kputF hC hni hK hS (Or.inl rfl) hO rfl uin_X10 tyX10 tyX10_ok nmX10 0 (by decide) TF_X10_9 rfl rfl rfl rfl dX10_init_123 (fun H locs hO zN oN hS => ?_)
  replace hF := fam_kept hF (fun q h1 h2 => (oN q (by omega)))
  replace hz : H.size = z + 1 := by omega
  clear zN oN
  refine lv_aload_n hC.x hC.b dX10_init_126 rfl (lv_at hl 0 rfl) ?_
  refine lv_bipush (v := 24) hC.x hC.b dX10_init_127 (by decide) ?_
  refine knewi (h := z + 1) hC hK hS hz (N := 24) (by decide) rfl (Nat.le_of_ble_eq_true rfl) (Nat.le_of_ble_eq_true rfl) (Nat.le_of_ble_eq_true rfl) dX10_init_129 (fun H hN zN oN hS => ?_)
  replace hO := KO.kept hO (oN _ (by omega))
  replace hF := fam_kept hF (fun q h1 h2 => (oN q (by omega)))
  replace hz : H.size = z + 2 := by omega
  clear zN oN
  replace hF := fam_ext (f := c10 G) hF hN
  clear hN
  refine kputF hC hni hK hS (Or.inl rfl) hO rfl uin_X10 tyX10 tyX10_ok nmX10 1 (by decide) TF_X10_13 rfl rfl rfl rfl dX10_init_131 (fun H locs hO zN oN hS => ?_)
  replace hF := fam_kept hF (fun q h1 h2 => (oN q (by omega)))
  replace hz : H.size = z + 2 := by omega
  clear zN oN
  refine lv_aload_n hC.x hC.b dX10_init_134 rfl (lv_at hl 0 rfl) ?_
  refine lv_bipush (v := 24) hC.x hC.b dX10_init_135 (by decide) ?_
  refine knewi (h := z + 2) hC hK hS hz (N := 24) (by decide) rfl (Nat.le_of_ble_eq_true rfl) (Nat.le_of_ble_eq_true rfl) (Nat.le_of_ble_eq_true rfl) dX10_init_137 (fun H hN zN oN hS => ?_)
  replace hO := KO.kept hO (oN _ (by omega))
  replace hF := fam_kept hF (fun q h1 h2 => (oN q (by omega)))
  replace hz : H.size = z + 3 := by omega
  clear zN oN
  replace hF := fam_ext (f := c10 G) hF hN
  clear hN
  refine kputF hC hni hK hS (Or.inl rfl) hO rfl uin_X10 tyX10 tyX10_ok nmX10 2 (by decide) TF_X10_16 rfl rfl rfl rfl dX10_init_139 (fun H locs hO zN oN hS => ?_)
  replace hF := fam_kept hF (fun q h1 h2 => (oN q (by omega)))
  replace hz : H.size = z + 3 := by omega
  clear zN oN
  refine lv_aload_n hC.x hC.b dX10_init_142 rfl (lv_at hl 0 rfl) ?_
  refine lv_bipush (v := 24) hC.x hC.b dX10_init_143 (by decide) ?_
  refine knewz (h := z + 3) hC hK hS hz (N := 24) (by decide) rfl (Nat.le_of_ble_eq_true rfl) (Nat.le_of_ble_eq_true rfl) (Nat.le_of_ble_eq_true rfl) dX10_init_145 (fun H hN zN oN hS => ?_)
  replace hO := KO.kept hO (oN _ (by omega))
  replace hF := fam_kept hF (fun q h1 h2 => (oN q (by omega)))
  replace hz : H.size = z + 4 := by omega
  clear zN oN
  replace hF := fam_ext (f := c10 G) hF hN
  clear hN
  refine kputF hC hni hK hS (Or.inl rfl) hO rfl uin_X10 tyX10 tyX10_ok nmX10 3 (by decide) TF_X10_19 rfl rfl rfl rfl dX10_init_147 (fun H locs hO zN oN hS => ?_)
  replace hF := fam_kept hF (fun q h1 h2 => (oN q (by omega)))
  replace hz : H.size = z + 4 := by omega
  clear zN oN
  refine lv_aload_n hC.x hC.b dX10_init_150 rfl (lv_at hl 0 rfl) ?_
  refine lv_bipush (v := 24) hC.x hC.b dX10_init_151 (by decide) ?_
  refine knewz (h := z + 4) hC hK hS hz (N := 24) (by decide) rfl (Nat.le_of_ble_eq_true rfl) (Nat.le_of_ble_eq_true rfl) (Nat.le_of_ble_eq_true rfl) dX10_init_153 (fun H hN zN oN hS => ?_)
  replace hO := KO.kept hO (oN _ (by omega))
  replace hF := fam_kept hF (fun q h1 h2 => (oN q (by omega)))
  replace hz : H.size = z + 5 := by omega
  clear zN oN
  replace hF := fam_ext (f := c10 G) hF hN
  clear hN
  refine kputF hC hni hK hS (Or.inl rfl) hO rfl uin_X10 tyX10 tyX10_ok nmX10 4 (by decide) TF_X10_23 rfl rfl rfl rfl dX10_init_155 (fun H locs hO zN oN hS => ?_)
  replace hF := fam_kept hF (fun q h1 h2 => (oN q (by omega)))
  replace hz : H.size = z + 5 := by omega
  clear zN oN
  refine lv_aload_n hC.x hC.b dX10_init_158 rfl (lv_at hl 0 rfl) ?_
  refine lv_bipush (v := 24) hC.x hC.b dX10_init_159 (by decide) ?_
  refine knewz (h := z + 5) hC hK hS hz (N := 24) (by decide) rfl (Nat.le_of_ble_eq_true rfl) (Nat.le_of_ble_eq_true rfl) (Nat.le_of_ble_eq_true rfl) dX10_init_161 (fun H hN zN oN hS => ?_)
  replace hO := KO.kept hO (oN _ (by omega))
  replace hF := fam_kept hF (fun q h1 h2 => (oN q (by omega)))
  replace hz : H.size = z + 6 := by omega
  clear zN oN
  replace hF := fam_ext (f := c10 G) hF hN
  clear hN
  refine kputF hC hni hK hS (Or.inl rfl) hO rfl uin_X10 tyX10 tyX10_ok nmX10 5 (by decide) TF_X10_26 rfl rfl rfl rfl dX10_init_163 (fun H locs hO zN oN hS => ?_)
  replace hF := fam_kept hF (fun q h1 h2 => (oN q (by omega)))
  replace hz : H.size = z + 6 := by omega
  clear zN oN
  refine lv_aload_n hC.x hC.b dX10_init_166 rfl (lv_at hl 0 rfl) ?_
  refine lv_bipush (v := 24) hC.x hC.b dX10_init_167 (by decide) ?_
  refine knewi (h := z + 6) hC hK hS hz (N := 24) (by decide) rfl (Nat.le_of_ble_eq_true rfl) (Nat.le_of_ble_eq_true rfl) (Nat.le_of_ble_eq_true rfl) dX10_init_169 (fun H hN zN oN hS => ?_)
  replace hO := KO.kept hO (oN _ (by omega))
  replace hF := fam_kept hF (fun q h1 h2 => (oN q (by omega)))
  replace hz : H.size = z + 7 := by omega
  clear zN oN
  replace hF := fam_ext (f := c10 G) hF hN
  clear hN
  refine kputF hC hni hK hS (Or.inl rfl) hO rfl uin_X10 tyX10 tyX10_ok nmX10 6 (by decide) TF_X10_29 rfl rfl rfl rfl dX10_init_171 (fun H locs hO zN oN hS => ?_)
  replace hF := fam_kept hF (fun q h1 h2 => (oN q (by omega)))
  replace hz : H.size = z + 7 := by omega
  clear zN oN
  refine lv_aload_n hC.x hC.b dX10_init_174 rfl (lv_at hl 0 rfl) ?_
  refine lv_bipush (v := 24) hC.x hC.b dX10_init_175 (by decide) ?_
  refine knewi (h := z + 7) hC hK hS hz (N := 24) (by decide) rfl (Nat.le_of_ble_eq_true rfl) (Nat.le_of_ble_eq_true rfl) (Nat.le_of_ble_eq_true rfl) dX10_init_177 (fun H hN zN oN hS => ?_)
  replace hO := KO.kept hO (oN _ (by omega))
  replace hF := fam_kept hF (fun q h1 h2 => (oN q (by omega)))
  replace hz : H.size = z + 8 := by omega
  clear zN oN
  replace hF := fam_ext (f := c10 G) hF hN
  clear hN
  refine kputF hC hni hK hS (Or.inl rfl) hO rfl uin_X10 tyX10 tyX10_ok nmX10 7 (by decide) TF_X10_32 rfl rfl rfl rfl dX10_init_179 (fun H locs hO zN oN hS => ?_)
  replace hF := fam_kept hF (fun q h1 h2 => (oN q (by omega)))
  replace hz : H.size = z + 8 := by omega
  clear zN oN
  refine lv_aload_n hC.x hC.b dX10_init_182 rfl (lv_at hl 0 rfl) ?_
  refine lv_bipush (v := 24) hC.x hC.b dX10_init_183 (by decide) ?_
  refine knewi (h := z + 8) hC hK hS hz (N := 24) (by decide) rfl (Nat.le_of_ble_eq_true rfl) (Nat.le_of_ble_eq_true rfl) (Nat.le_of_ble_eq_true rfl) dX10_init_185 (fun H hN zN oN hS => ?_)
  replace hO := KO.kept hO (oN _ (by omega))
  replace hF := fam_kept hF (fun q h1 h2 => (oN q (by omega)))
  replace hz : H.size = z + 9 := by omega
  clear zN oN
  replace hF := fam_ext (f := c10 G) hF hN
  clear hN
  refine kputF hC hni hK hS (Or.inl rfl) hO rfl uin_X10 tyX10 tyX10_ok nmX10 8 (by decide) TF_X10_35 rfl rfl rfl rfl dX10_init_187 (fun H locs hO zN oN hS => ?_)
  replace hF := fam_kept hF (fun q h1 h2 => (oN q (by omega)))
  replace hz : H.size = z + 9 := by omega
  clear zN oN
  refine lv_aload_n hC.x hC.b dX10_init_190 rfl (lv_at hl 0 rfl) ?_
  refine lv_bipush (v := 24) hC.x hC.b dX10_init_191 (by decide) ?_
  refine knewi (h := z + 9) hC hK hS hz (N := 24) (by decide) rfl (Nat.le_of_ble_eq_true rfl) (Nat.le_of_ble_eq_true rfl) (Nat.le_of_ble_eq_true rfl) dX10_init_193 (fun H hN zN oN hS => ?_)
  replace hO := KO.kept hO (oN _ (by omega))
  replace hF := fam_kept hF (fun q h1 h2 => (oN q (by omega)))
  replace hz : H.size = z + 10 := by omega
  clear zN oN
  replace hF := fam_ext (f := c10 G) hF hN
  clear hN
  refine kputF hC hni hK hS (Or.inl rfl) hO rfl uin_X10 tyX10 tyX10_ok nmX10 9 (by decide) TF_X10_38 rfl rfl rfl rfl dX10_init_195 (fun H locs hO zN oN hS => ?_)
  replace hF := fam_kept hF (fun q h1 h2 => (oN q (by omega)))
  replace hz : H.size = z + 10 := by omega
  clear zN oN
  refine lv_aload_n hC.x hC.b dX10_init_198 rfl (lv_at hl 0 rfl) ?_
  refine lv_bipush (v := 24) hC.x hC.b dX10_init_199 (by decide) ?_
  refine knewi (h := z + 10) hC hK hS hz (N := 24) (by decide) rfl (Nat.le_of_ble_eq_true rfl) (Nat.le_of_ble_eq_true rfl) (Nat.le_of_ble_eq_true rfl) dX10_init_201 (fun H hN zN oN hS => ?_)
  replace hO := KO.kept hO (oN _ (by omega))
  replace hF := fam_kept hF (fun q h1 h2 => (oN q (by omega)))
  replace hz : H.size = z + 11 := by omega
  clear zN oN
  replace hF := fam_ext (f := c10 G) hF hN
  clear hN
  refine kputF hC hni hK hS (Or.inl rfl) hO rfl uin_X10 tyX10 tyX10_ok nmX10 10 (by decide) TF_X10_41 rfl rfl rfl rfl dX10_init_203 (fun H locs hO zN oN hS => ?_)
  replace hF := fam_kept hF (fun q h1 h2 => (oN q (by omega)))
  replace hz : H.size = z + 11 := by omega
  clear zN oN
  refine lv_aload_n hC.x hC.b dX10_init_206 rfl (lv_at hl 0 rfl) ?_
  refine lv_bipush (v := 24) hC.x hC.b dX10_init_207 (by decide) ?_
  refine knewi (h := z + 11) hC hK hS hz (N := 24) (by decide) rfl (Nat.le_of_ble_eq_true rfl) (Nat.le_of_ble_eq_true rfl) (Nat.le_of_ble_eq_true rfl) dX10_init_209 (fun H hN zN oN hS => ?_)
  replace hO := KO.kept hO (oN _ (by omega))
  replace hF := fam_kept hF (fun q h1 h2 => (oN q (by omega)))
  replace hz : H.size = z + 12 := by omega
  clear zN oN
  replace hF := fam_ext (f := c10 G) hF hN
  clear hN
  refine kputF hC hni hK hS (Or.inl rfl) hO rfl uin_X10 tyX10 tyX10_ok nmX10 11 (by decide) TF_X10_44 rfl rfl rfl rfl dX10_init_211 (fun H locs hO zN oN hS => ?_)
  replace hF := fam_kept hF (fun q h1 h2 => (oN q (by omega)))
  replace hz : H.size = z + 12 := by omega
  clear zN oN
  refine lv_aload_n hC.x hC.b dX10_init_214 rfl (lv_at hl 0 rfl) ?_
  refine lv_sipush (v := 4824) hC.x hC.b dX10_init_215 (by decide) ?_
  refine knewi (h := z + 12) hC hK hS hz (N := 4824) (by decide) rfl (Nat.le_of_ble_eq_true rfl) (Nat.le_of_ble_eq_true rfl) (Nat.le_of_ble_eq_true rfl) dX10_init_218 (fun H hN zN oN hS => ?_)
  replace hO := KO.kept hO (oN _ (by omega))
  replace hF := fam_kept hF (fun q h1 h2 => (oN q (by omega)))
  replace hz : H.size = z + 13 := by omega
  clear zN oN
  replace hF := fam_ext (f := c10 G) hF hN
  clear hN
  refine kputF hC hni hK hS (Or.inl rfl) hO rfl uin_X10 tyX10 tyX10_ok nmX10 12 (by decide) TF_X10_47 rfl rfl rfl rfl dX10_init_220 (fun H locs hO zN oN hS => ?_)
  replace hF := fam_kept hF (fun q h1 h2 => (oN q (by omega)))
  replace hz : H.size = z + 13 := by omega
  clear zN oN
  refine lv_aload_n hC.x hC.b dX10_init_223 rfl (lv_at hl 0 rfl) ?_
  refine lv_sipush (v := 4824) hC.x hC.b dX10_init_224 (by decide) ?_
  refine knewi (h := z + 13) hC hK hS hz (N := 4824) (by decide) rfl (Nat.le_of_ble_eq_true rfl) (Nat.le_of_ble_eq_true rfl) (Nat.le_of_ble_eq_true rfl) dX10_init_227 (fun H hN zN oN hS => ?_)
  replace hO := KO.kept hO (oN _ (by omega))
  replace hF := fam_kept hF (fun q h1 h2 => (oN q (by omega)))
  replace hz : H.size = z + 14 := by omega
  clear zN oN
  replace hF := fam_ext (f := c10 G) hF hN
  clear hN
  refine kputF hC hni hK hS (Or.inl rfl) hO rfl uin_X10 tyX10 tyX10_ok nmX10 13 (by decide) TF_X10_50 rfl rfl rfl rfl dX10_init_229 (fun H locs hO zN oN hS => ?_)
  replace hF := fam_kept hF (fun q h1 h2 => (oN q (by omega)))
  replace hz : H.size = z + 14 := by omega
  clear zN oN
  refine lv_aload_n hC.x hC.b dX10_init_232 rfl (lv_at hl 0 rfl) ?_
  refine lv_sipush (v := 4824) hC.x hC.b dX10_init_233 (by decide) ?_
  refine knewz (h := z + 14) hC hK hS hz (N := 4824) (by decide) rfl (Nat.le_of_ble_eq_true rfl) (Nat.le_of_ble_eq_true rfl) (Nat.le_of_ble_eq_true rfl) dX10_init_236 (fun H hN zN oN hS => ?_)
  replace hO := KO.kept hO (oN _ (by omega))
  replace hF := fam_kept hF (fun q h1 h2 => (oN q (by omega)))
  replace hz : H.size = z + 15 := by omega
  clear zN oN
  replace hF := fam_ext (f := c10 G) hF hN
  clear hN
  refine kputF hC hni hK hS (Or.inl rfl) hO rfl uin_X10 tyX10 tyX10_ok nmX10 14 (by decide) TF_X10_53 rfl rfl rfl rfl dX10_init_238 (fun H locs hO zN oN hS => ?_)
  replace hF := fam_kept hF (fun q h1 h2 => (oN q (by omega)))
  replace hz : H.size = z + 15 := by omega
  clear zN oN
  refine lv_aload_n hC.x hC.b dX10_init_241 rfl (lv_at hl 0 rfl) ?_
  refine lv_sipush (v := 4824) hC.x hC.b dX10_init_242 (by decide) ?_
  refine knewz (h := z + 15) hC hK hS hz (N := 4824) (by decide) rfl (Nat.le_of_ble_eq_true rfl) (Nat.le_of_ble_eq_true rfl) (Nat.le_of_ble_eq_true rfl) dX10_init_245 (fun H hN zN oN hS => ?_)
  replace hO := KO.kept hO (oN _ (by omega))
  replace hF := fam_kept hF (fun q h1 h2 => (oN q (by omega)))
  replace hz : H.size = z + 16 := by omega
  clear zN oN
  replace hF := fam_ext (f := c10 G) hF hN
  clear hN
  refine kputF hC hni hK hS (Or.inl rfl) hO rfl uin_X10 tyX10 tyX10_ok nmX10 15 (by decide) TF_X10_56 rfl rfl rfl rfl dX10_init_247 (fun H locs hO zN oN hS => ?_)
  replace hF := fam_kept hF (fun q h1 h2 => (oN q (by omega)))
  replace hz : H.size = z + 16 := by omega
  clear zN oN
  refine lv_aload_n hC.x hC.b dX10_init_250 rfl (lv_at hl 0 rfl) ?_
  refine lv_sipush (v := 4824) hC.x hC.b dX10_init_251 (by decide) ?_
  refine knewz (h := z + 16) hC hK hS hz (N := 4824) (by decide) rfl (Nat.le_of_ble_eq_true rfl) (Nat.le_of_ble_eq_true rfl) (Nat.le_of_ble_eq_true rfl) dX10_init_254 (fun H hN zN oN hS => ?_)
  replace hO := KO.kept hO (oN _ (by omega))
  replace hF := fam_kept hF (fun q h1 h2 => (oN q (by omega)))
  replace hz : H.size = z + 17 := by omega
  clear zN oN
  replace hF := fam_ext (f := c10 G) hF hN
  clear hN
  refine kputF hC hni hK hS (Or.inl rfl) hO rfl uin_X10 tyX10 tyX10_ok nmX10 16 (by decide) TF_X10_59 rfl rfl rfl rfl dX10_init_256 (fun H locs hO zN oN hS => ?_)
  replace hF := fam_kept hF (fun q h1 h2 => (oN q (by omega)))
  replace hz : H.size = z + 17 := by omega
  clear zN oN
  refine lv_aload_n hC.x hC.b dX10_init_259 rfl (lv_at hl 0 rfl) ?_
  refine lv_sipush (v := 4824) hC.x hC.b dX10_init_260 (by decide) ?_
  refine knewz (h := z + 17) hC hK hS hz (N := 4824) (by decide) rfl (Nat.le_of_ble_eq_true rfl) (Nat.le_of_ble_eq_true rfl) (Nat.le_of_ble_eq_true rfl) dX10_init_263 (fun H hN zN oN hS => ?_)
  replace hO := KO.kept hO (oN _ (by omega))
  replace hF := fam_kept hF (fun q h1 h2 => (oN q (by omega)))
  replace hz : H.size = z + 18 := by omega
  clear zN oN
  replace hF := fam_ext (f := c10 G) hF hN
  clear hN
  refine kputF hC hni hK hS (Or.inl rfl) hO rfl uin_X10 tyX10 tyX10_ok nmX10 17 (by decide) TF_X10_62 rfl rfl rfl rfl dX10_init_265 (fun H locs hO zN oN hS => ?_)
  replace hF := fam_kept hF (fun q h1 h2 => (oN q (by omega)))
  replace hz : H.size = z + 18 := by omega
  clear zN oN
  refine lv_aload_n hC.x hC.b dX10_init_268 rfl (lv_at hl 0 rfl) ?_
  refine lv_sipush (v := 4824) hC.x hC.b dX10_init_269 (by decide) ?_
  refine knewi (h := z + 18) hC hK hS hz (N := 4824) (by decide) rfl (Nat.le_of_ble_eq_true rfl) (Nat.le_of_ble_eq_true rfl) (Nat.le_of_ble_eq_true rfl) dX10_init_272 (fun H hN zN oN hS => ?_)
  replace hO := KO.kept hO (oN _ (by omega))
  replace hF := fam_kept hF (fun q h1 h2 => (oN q (by omega)))
  replace hz : H.size = z + 19 := by omega
  clear zN oN
  replace hF := fam_ext (f := c10 G) hF hN
  clear hN
  refine kputF hC hni hK hS (Or.inl rfl) hO rfl uin_X10 tyX10 tyX10_ok nmX10 18 (by decide) TF_X10_65 rfl rfl rfl rfl dX10_init_274 (fun H locs hO zN oN hS => ?_)
  replace hF := fam_kept hF (fun q h1 h2 => (oN q (by omega)))
  replace hz : H.size = z + 19 := by omega
  clear zN oN
  refine lv_aload_n hC.x hC.b dX10_init_277 rfl (lv_at hl 0 rfl) ?_
  refine lv_sipush (v := 4824) hC.x hC.b dX10_init_278 (by decide) ?_
  refine knewi (h := z + 19) hC hK hS hz (N := 4824) (by decide) rfl (Nat.le_of_ble_eq_true rfl) (Nat.le_of_ble_eq_true rfl) (Nat.le_of_ble_eq_true rfl) dX10_init_281 (fun H hN zN oN hS => ?_)
  replace hO := KO.kept hO (oN _ (by omega))
  replace hF := fam_kept hF (fun q h1 h2 => (oN q (by omega)))
  replace hz : H.size = z + 20 := by omega
  clear zN oN
  replace hF := fam_ext (f := c10 G) hF hN
  clear hN
  refine kputF hC hni hK hS (Or.inl rfl) hO rfl uin_X10 tyX10 tyX10_ok nmX10 19 (by decide) TF_X10_68 rfl rfl rfl rfl dX10_init_283 (fun H locs hO zN oN hS => ?_)
  replace hF := fam_kept hF (fun q h1 h2 => (oN q (by omega)))
  replace hz : H.size = z + 20 := by omega
  clear zN oN
  refine lv_aload_n hC.x hC.b dX10_init_286 rfl (lv_at hl 0 rfl) ?_
  refine lv_sipush (v := 4824) hC.x hC.b dX10_init_287 (by decide) ?_
  refine knewi (h := z + 20) hC hK hS hz (N := 4824) (by decide) rfl (Nat.le_of_ble_eq_true rfl) (Nat.le_of_ble_eq_true rfl) (Nat.le_of_ble_eq_true rfl) dX10_init_290 (fun H hN zN oN hS => ?_)
  replace hO := KO.kept hO (oN _ (by omega))
  replace hF := fam_kept hF (fun q h1 h2 => (oN q (by omega)))
  replace hz : H.size = z + 21 := by omega
  clear zN oN
  replace hF := fam_ext (f := c10 G) hF hN
  clear hN
  refine kputF hC hni hK hS (Or.inl rfl) hO rfl uin_X10 tyX10 tyX10_ok nmX10 20 (by decide) TF_X10_71 rfl rfl rfl rfl dX10_init_292 (fun H locs hO zN oN hS => ?_)
  replace hF := fam_kept hF (fun q h1 h2 => (oN q (by omega)))
  replace hz : H.size = z + 21 := by omega
  clear zN oN
  refine lv_aload_n hC.x hC.b dX10_init_295 rfl (lv_at hl 0 rfl) ?_
  refine lv_sipush (v := 4824) hC.x hC.b dX10_init_296 (by decide) ?_
  refine knewi (h := z + 21) hC hK hS hz (N := 4824) (by decide) rfl (Nat.le_of_ble_eq_true rfl) (Nat.le_of_ble_eq_true rfl) (Nat.le_of_ble_eq_true rfl) dX10_init_299 (fun H hN zN oN hS => ?_)
  replace hO := KO.kept hO (oN _ (by omega))
  replace hF := fam_kept hF (fun q h1 h2 => (oN q (by omega)))
  replace hz : H.size = z + 22 := by omega
  clear zN oN
  replace hF := fam_ext (f := c10 G) hF hN
  clear hN
  refine kputF hC hni hK hS (Or.inl rfl) hO rfl uin_X10 tyX10 tyX10_ok nmX10 21 (by decide) TF_X10_74 rfl rfl rfl rfl dX10_init_301 (fun H locs hO zN oN hS => ?_)
  replace hF := fam_kept hF (fun q h1 h2 => (oN q (by omega)))
  replace hz : H.size = z + 22 := by omega
  clear zN oN
  refine lv_aload_n hC.x hC.b dX10_init_304 rfl (lv_at hl 0 rfl) ?_
  refine lv_sipush (v := 4824) hC.x hC.b dX10_init_305 (by decide) ?_
  refine knewi (h := z + 22) hC hK hS hz (N := 4824) (by decide) rfl (Nat.le_of_ble_eq_true rfl) (Nat.le_of_ble_eq_true rfl) (Nat.le_of_ble_eq_true rfl) dX10_init_308 (fun H hN zN oN hS => ?_)
  replace hO := KO.kept hO (oN _ (by omega))
  replace hF := fam_kept hF (fun q h1 h2 => (oN q (by omega)))
  replace hz : H.size = z + 23 := by omega
  clear zN oN
  replace hF := fam_ext (f := c10 G) hF hN
  clear hN
  refine kputF hC hni hK hS (Or.inl rfl) hO rfl uin_X10 tyX10 tyX10_ok nmX10 22 (by decide) TF_X10_77 rfl rfl rfl rfl dX10_init_310 (fun H locs hO zN oN hS => ?_)
  replace hF := fam_kept hF (fun q h1 h2 => (oN q (by omega)))
  replace hz : H.size = z + 23 := by omega
  clear zN oN
  refine lv_aload_n hC.x hC.b dX10_init_313 rfl (lv_at hl 0 rfl) ?_
  refine lv_sipush (v := 201) hC.x hC.b dX10_init_314 (by decide) ?_
  refine knewi (h := z + 23) hC hK hS hz (N := 201) (by decide) rfl (Nat.le_of_ble_eq_true rfl) (Nat.le_of_ble_eq_true rfl) (Nat.le_of_ble_eq_true rfl) dX10_init_317 (fun H hN zN oN hS => ?_)
  replace hO := KO.kept hO (oN _ (by omega))
  replace hF := fam_kept hF (fun q h1 h2 => (oN q (by omega)))
  replace hz : H.size = z + 24 := by omega
  clear zN oN
  replace hF := fam_ext (f := c10 G) hF hN
  clear hN
  refine kputF hC hni hK hS (Or.inl rfl) hO rfl uin_X10 tyX10 tyX10_ok nmX10 23 (by decide) TF_X10_80 rfl rfl rfl rfl dX10_init_319 (fun H locs hO zN oN hS => ?_)
  replace hF := fam_kept hF (fun q h1 h2 => (oN q (by omega)))
  replace hz : H.size = z + 24 := by omega
  clear zN oN
  refine lv_aload_n hC.x hC.b dX10_init_322 rfl (lv_at hl 0 rfl) ?_
  refine lv_sipush (v := 201) hC.x hC.b dX10_init_323 (by decide) ?_
  refine knewi (h := z + 24) hC hK hS hz (N := 201) (by decide) rfl (Nat.le_of_ble_eq_true rfl) (Nat.le_of_ble_eq_true rfl) (Nat.le_of_ble_eq_true rfl) dX10_init_326 (fun H hN zN oN hS => ?_)
  replace hO := KO.kept hO (oN _ (by omega))
  replace hF := fam_kept hF (fun q h1 h2 => (oN q (by omega)))
  replace hz : H.size = z + 25 := by omega
  clear zN oN
  replace hF := fam_ext (f := c10 G) hF hN
  clear hN
  refine kputF hC hni hK hS (Or.inl rfl) hO rfl uin_X10 tyX10 tyX10_ok nmX10 24 (by decide) TF_X10_83 rfl rfl rfl rfl dX10_init_328 (fun H locs hO zN oN hS => ?_)
  replace hF := fam_kept hF (fun q h1 h2 => (oN q (by omega)))
  replace hz : H.size = z + 25 := by omega
  clear zN oN
  refine lv_aload_n hC.x hC.b dX10_init_331 rfl (lv_at hl 0 rfl) ?_
  refine lv_sipush (v := 201) hC.x hC.b dX10_init_332 (by decide) ?_
  refine knewi (h := z + 25) hC hK hS hz (N := 201) (by decide) rfl (Nat.le_of_ble_eq_true rfl) (Nat.le_of_ble_eq_true rfl) (Nat.le_of_ble_eq_true rfl) dX10_init_335 (fun H hN zN oN hS => ?_)
  replace hO := KO.kept hO (oN _ (by omega))
  replace hF := fam_kept hF (fun q h1 h2 => (oN q (by omega)))
  replace hz : H.size = z + 26 := by omega
  clear zN oN
  replace hF := fam_ext (f := c10 G) hF hN
  clear hN
  refine kputF hC hni hK hS (Or.inl rfl) hO rfl uin_X10 tyX10 tyX10_ok nmX10 25 (by decide) TF_X10_86 rfl rfl rfl rfl dX10_init_337 (fun H locs hO zN oN hS => ?_)
  replace hF := fam_kept hF (fun q h1 h2 => (oN q (by omega)))
  replace hz : H.size = z + 26 := by omega
  clear zN oN
  refine lv_aload_n hC.x hC.b dX10_init_340 rfl (lv_at hl 0 rfl) ?_
  refine lv_sipush (v := 201) hC.x hC.b dX10_init_341 (by decide) ?_
  refine knewi (h := z + 26) hC hK hS hz (N := 201) (by decide) rfl (Nat.le_of_ble_eq_true rfl) (Nat.le_of_ble_eq_true rfl) (Nat.le_of_ble_eq_true rfl) dX10_init_344 (fun H hN zN oN hS => ?_)
  replace hO := KO.kept hO (oN _ (by omega))
  replace hF := fam_kept hF (fun q h1 h2 => (oN q (by omega)))
  replace hz : H.size = z + 27 := by omega
  clear zN oN
  replace hF := fam_ext (f := c10 G) hF hN
  clear hN
  refine kputF hC hni hK hS (Or.inl rfl) hO rfl uin_X10 tyX10 tyX10_ok nmX10 26 (by decide) TF_X10_89 rfl rfl rfl rfl dX10_init_346 (fun H locs hO zN oN hS => ?_)
  replace hF := fam_kept hF (fun q h1 h2 => (oN q (by omega)))
  replace hz : H.size = z + 27 := by omega
  clear zN oN
  refine lv_aload_n hC.x hC.b dX10_init_349 rfl (lv_at hl 0 rfl) ?_
  refine lv_sipush (v := 201) hC.x hC.b dX10_init_350 (by decide) ?_
  refine knewi (h := z + 27) hC hK hS hz (N := 201) (by decide) rfl (Nat.le_of_ble_eq_true rfl) (Nat.le_of_ble_eq_true rfl) (Nat.le_of_ble_eq_true rfl) dX10_init_353 (fun H hN zN oN hS => ?_)
  replace hO := KO.kept hO (oN _ (by omega))
  replace hF := fam_kept hF (fun q h1 h2 => (oN q (by omega)))
  replace hz : H.size = z + 28 := by omega
  clear zN oN
  replace hF := fam_ext (f := c10 G) hF hN
  clear hN
  refine kputF hC hni hK hS (Or.inl rfl) hO rfl uin_X10 tyX10 tyX10_ok nmX10 27 (by decide) TF_X10_92 rfl rfl rfl rfl dX10_init_355 (fun H locs hO zN oN hS => ?_)
  replace hF := fam_kept hF (fun q h1 h2 => (oN q (by omega)))
  replace hz : H.size = z + 28 := by omega
  clear zN oN
  refine lv_aload_n hC.x hC.b dX10_init_358 rfl (lv_at hl 0 rfl) ?_
  refine lv_sipush (v := 201) hC.x hC.b dX10_init_359 (by decide) ?_
  refine knewi (h := z + 28) hC hK hS hz (N := 201) (by decide) rfl (Nat.le_of_ble_eq_true rfl) (Nat.le_of_ble_eq_true rfl) (Nat.le_of_ble_eq_true rfl) dX10_init_362 (fun H hN zN oN hS => ?_)
  replace hO := KO.kept hO (oN _ (by omega))
  replace hF := fam_kept hF (fun q h1 h2 => (oN q (by omega)))
  replace hz : H.size = z + 29 := by omega
  clear zN oN
  replace hF := fam_ext (f := c10 G) hF hN
  clear hN
  refine kputF hC hni hK hS (Or.inl rfl) hO rfl uin_X10 tyX10 tyX10_ok nmX10 28 (by decide) TF_X10_95 rfl rfl rfl rfl dX10_init_364 (fun H locs hO zN oN hS => ?_)
  replace hF := fam_kept hF (fun q h1 h2 => (oN q (by omega)))
  replace hz : H.size = z + 29 := by omega
  clear zN oN
  refine lv_aload_n hC.x hC.b dX10_init_367 rfl (lv_at hl 0 rfl) ?_
  refine lv_bipush (v := 40) hC.x hC.b dX10_init_368 (by decide) ?_
  refine kput hC hK hS (Or.inl rfl) hO rfl uin_X10 tyX10 tyX10_ok nmX10 30 (by decide) TF_X10_98 rfl rfl rfl dX10_init_370 (fun H locs hO zN oN hS => ?_)
  replace hF := fam_kept hF (fun q h1 h2 => (oN q (by omega)))
  replace hz : H.size = z + 29 := by omega
  clear zN oN
  refine lv_aload_n hC.x hC.b dX10_init_373 rfl (lv_at hl 0 rfl) ?_
  refine lv_iconst (v := 5) hC.x hC.b dX10_init_374 (by decide) ?_
  refine kput hC hK hS (Or.inl rfl) hO rfl uin_X10 tyX10 tyX10_ok nmX10 31 (by decide) TF_X10_102 rfl rfl rfl dX10_init_375 (fun H locs hO zN oN hS => ?_)
  replace hF := fam_kept hF (fun q h1 h2 => (oN q (by omega)))
  replace hz : H.size = z + 29 := by omega
  clear zN oN
  refine lv_aload_n hC.x hC.b dX10_init_378 rfl (lv_at hl 0 rfl) ?_
  refine lv_bipush (v := 10) hC.x hC.b dX10_init_379 (by decide) ?_
  refine kput hC hK hS (Or.inl rfl) hO rfl uin_X10 tyX10 tyX10_ok nmX10 32 (by decide) TF_X10_105 rfl rfl rfl dX10_init_381 (fun H locs hO zN oN hS => ?_)
  replace hF := fam_kept hF (fun q h1 h2 => (oN q (by omega)))
  replace hz : H.size = z + 29 := by omega
  clear zN oN
  refine lv_aload_n hC.x hC.b dX10_init_384 rfl (lv_at hl 0 rfl) ?_
  refine lv_bipush (v := 100) hC.x hC.b dX10_init_385 (by decide) ?_
  refine knewi (h := z + 29) hC hK hS hz (N := 100) (by decide) rfl (Nat.le_of_ble_eq_true rfl) (Nat.le_of_ble_eq_true rfl) (Nat.le_of_ble_eq_true rfl) dX10_init_387 (fun H hN zN oN hS => ?_)
  replace hO := KO.kept hO (oN _ (by omega))
  replace hF := fam_kept hF (fun q h1 h2 => (oN q (by omega)))
  replace hz : H.size = z + 30 := by omega
  clear zN oN
  replace hF := fam_ext (f := c10 G) hF hN
  clear hN
  refine kputF hC hni hK hS (Or.inl rfl) hO rfl uin_X10 tyX10 tyX10_ok nmX10 34 (by decide) TF_X10_108 rfl rfl rfl rfl dX10_init_389 (fun H locs hO zN oN hS => ?_)
  replace hF := fam_kept hF (fun q h1 h2 => (oN q (by omega)))
  replace hz : H.size = z + 30 := by omega
  clear zN oN
  refine lv_aload_n hC.x hC.b dX10_init_392 rfl (lv_at hl 0 rfl) ?_
  refine lv_bipush (v := 100) hC.x hC.b dX10_init_393 (by decide) ?_
  refine knewi (h := z + 30) hC hK hS hz (N := 100) (by decide) rfl (Nat.le_of_ble_eq_true rfl) (Nat.le_of_ble_eq_true rfl) (Nat.le_of_ble_eq_true rfl) dX10_init_395 (fun H hN zN oN hS => ?_)
  replace hO := KO.kept hO (oN _ (by omega))
  replace hF := fam_kept hF (fun q h1 h2 => (oN q (by omega)))
  replace hz : H.size = z + 31 := by omega
  clear zN oN
  replace hF := fam_ext (f := c10 G) hF hN
  clear hN
  refine kputF hC hni hK hS (Or.inl rfl) hO rfl uin_X10 tyX10 tyX10_ok nmX10 35 (by decide) TF_X10_111 rfl rfl rfl rfl dX10_init_397 (fun H locs hO zN oN hS => ?_)
  replace hF := fam_kept hF (fun q h1 h2 => (oN q (by omega)))
  replace hz : H.size = z + 31 := by omega
  clear zN oN
  refine lv_aload_n hC.x hC.b dX10_init_400 rfl (lv_at hl 0 rfl) ?_
  refine lv_bipush (v := 100) hC.x hC.b dX10_init_401 (by decide) ?_
  refine knewi (h := z + 31) hC hK hS hz (N := 100) (by decide) rfl (Nat.le_of_ble_eq_true rfl) (Nat.le_of_ble_eq_true rfl) (Nat.le_of_ble_eq_true rfl) dX10_init_403 (fun H hN zN oN hS => ?_)
  replace hO := KO.kept hO (oN _ (by omega))
  replace hF := fam_kept hF (fun q h1 h2 => (oN q (by omega)))
  replace hz : H.size = z + 32 := by omega
  clear zN oN
  replace hF := fam_ext (f := c10 G) hF hN
  clear hN
  refine kputF hC hni hK hS (Or.inl rfl) hO rfl uin_X10 tyX10 tyX10_ok nmX10 36 (by decide) TF_X10_114 rfl rfl rfl rfl dX10_init_405 (fun H locs hO zN oN hS => ?_)
  replace hF := fam_kept hF (fun q h1 h2 => (oN q (by omega)))
  replace hz : H.size = z + 32 := by omega
  clear zN oN
  refine lv_aload_n hC.x hC.b dX10_init_408 rfl (lv_at hl 0 rfl) ?_
  refine lv_bipush (v := 24) hC.x hC.b dX10_init_409 (by decide) ?_
  refine knewi (h := z + 32) hC hK hS hz (N := 24) (by decide) rfl (Nat.le_of_ble_eq_true rfl) (Nat.le_of_ble_eq_true rfl) (Nat.le_of_ble_eq_true rfl) dX10_init_411 (fun H hN zN oN hS => ?_)
  replace hO := KO.kept hO (oN _ (by omega))
  replace hF := fam_kept hF (fun q h1 h2 => (oN q (by omega)))
  replace hz : H.size = z + 33 := by omega
  clear zN oN
  replace hF := fam_ext (f := c10 G) hF hN
  clear hN
  refine kputF hC hni hK hS (Or.inl rfl) hO rfl uin_X10 tyX10 tyX10_ok nmX10 38 (by decide) TF_X10_117 rfl rfl rfl rfl dX10_init_413 (fun H locs hO zN oN hS => ?_)
  replace hF := fam_kept hF (fun q h1 h2 => (oN q (by omega)))
  replace hz : H.size = z + 33 := by omega
  clear zN oN
  refine lv_aload_n hC.x hC.b dX10_init_416 rfl (lv_at hl 0 rfl) ?_
  refine lv_bipush (v := 24) hC.x hC.b dX10_init_417 (by decide) ?_
  refine knewi (h := z + 33) hC hK hS hz (N := 24) (by decide) rfl (Nat.le_of_ble_eq_true rfl) (Nat.le_of_ble_eq_true rfl) (Nat.le_of_ble_eq_true rfl) dX10_init_419 (fun H hN zN oN hS => ?_)
  replace hO := KO.kept hO (oN _ (by omega))
  replace hF := fam_kept hF (fun q h1 h2 => (oN q (by omega)))
  replace hz : H.size = z + 34 := by omega
  clear zN oN
  replace hF := fam_ext (f := c10 G) hF hN
  clear hN
  refine kputF hC hni hK hS (Or.inl rfl) hO rfl uin_X10 tyX10 tyX10_ok nmX10 39 (by decide) TF_X10_120 rfl rfl rfl rfl dX10_init_421 (fun H locs hO zN oN hS => ?_)
  replace hF := fam_kept hF (fun q h1 h2 => (oN q (by omega)))
  replace hz : H.size = z + 34 := by omega
  clear zN oN
  refine lv_aload_n hC.x hC.b dX10_init_424 rfl (lv_at hl 0 rfl) ?_
  refine lv_bipush (v := 24) hC.x hC.b dX10_init_425 (by decide) ?_
  refine knewi (h := z + 34) hC hK hS hz (N := 24) (by decide) rfl (Nat.le_of_ble_eq_true rfl) (Nat.le_of_ble_eq_true rfl) (Nat.le_of_ble_eq_true rfl) dX10_init_427 (fun H hN zN oN hS => ?_)
  replace hO := KO.kept hO (oN _ (by omega))
  replace hF := fam_kept hF (fun q h1 h2 => (oN q (by omega)))
  replace hz : H.size = z + 35 := by omega
  clear zN oN
  replace hF := fam_ext (f := c10 G) hF hN
  clear hN
  refine kputF hC hni hK hS (Or.inl rfl) hO rfl uin_X10 tyX10 tyX10_ok nmX10 40 (by decide) TF_X10_123 rfl rfl rfl rfl dX10_init_429 (fun H locs hO zN oN hS => ?_)
  replace hF := fam_kept hF (fun q h1 h2 => (oN q (by omega)))
  replace hz : H.size = z + 35 := by omega
  clear zN oN
  refine lv_aload_n hC.x hC.b dX10_init_432 rfl (lv_at hl 0 rfl) ?_
  refine lv_bipush (v := 24) hC.x hC.b dX10_init_433 (by decide) ?_
  refine knewz (h := z + 35) hC hK hS hz (N := 24) (by decide) rfl (Nat.le_of_ble_eq_true rfl) (Nat.le_of_ble_eq_true rfl) (Nat.le_of_ble_eq_true rfl) dX10_init_435 (fun H hN zN oN hS => ?_)
  replace hO := KO.kept hO (oN _ (by omega))
  replace hF := fam_kept hF (fun q h1 h2 => (oN q (by omega)))
  replace hz : H.size = z + 36 := by omega
  clear zN oN
  replace hF := fam_ext (f := c10 G) hF hN
  clear hN
  refine kputF hC hni hK hS (Or.inl rfl) hO rfl uin_X10 tyX10 tyX10_ok nmX10 48 (by decide) TF_X10_126 rfl rfl rfl rfl dX10_init_437 (fun H locs hO zN oN hS => ?_)
  replace hF := fam_kept hF (fun q h1 h2 => (oN q (by omega)))
  replace hz : H.size = z + 36 := by omega
  clear zN oN
  exact kret hC hS ⟨by omega, ⟨_, rfl, hO.to (fun j hj => by match j, hj with | 0, _ => rfl | 1, _ => rfl | 2, _ => rfl | 3, _ => rfl | 4, _ => rfl | 5, _ => rfl | 6, _ => rfl | 7, _ => rfl | 8, _ => rfl | 9, _ => rfl | 10, _ => rfl | 11, _ => rfl | 12, _ => rfl | 13, _ => rfl | 14, _ => rfl | 15, _ => rfl | 16, _ => rfl | 17, _ => rfl | 18, _ => rfl | 19, _ => rfl | 20, _ => rfl | 21, _ => rfl | 22, _ => rfl | 23, _ => rfl | 24, _ => rfl | 25, _ => rfl | 26, _ => rfl | 27, _ => rfl | 28, _ => rfl | 29, _ => rfl | 30, _ => rfl | 31, _ => rfl | 32, _ => rfl | 33, _ => rfl | 34, _ => rfl | 35, _ => rfl | 36, _ => rfl | 37, _ => rfl | 38, _ => rfl | 39, _ => rfl | 40, _ => rfl | 41, _ => rfl | 42, _ => rfl | 43, _ => rfl | 44, _ => rfl | 45, _ => rfl | 46, _ => rfl | 47, _ => rfl | 48, _ => rfl | k + 49, h => exact absurd h (by omega))⟩, hF⟩ (Nat.le_of_ble_eq_true rfl) (Nat.le_of_ble_eq_true rfl) dX10_init_440
