abbrev DX9 (G : Gx) (a z : Nat) (H : Heap) : Prop := AT G a (.inr (9, [.ref (z + 0), .ref (z + 100), .ref (z + 114), .ref (z + 118), .ref (z + 124), .ref (z + 127), .ref (z + 129), .int (0), .int (0), .int (40), .int (5), .int (10), .int (0)])) H ∧ DX5 G (z + 0) (z + 1) H ∧ DX7 G (z + 100) (z + 101) H ∧ DX6 G (z + 114) (z + 115) H ∧ DX8 G (z + 118) (z + 119) (z + 0) H ∧ DX2 G (z + 124) (z + 125) (z + 100) H ∧ DX1 G (z + 127) (z + 128) (z + 0) (z + 118) (z + 100) (z + 124) (z + 114) H ∧ AT G (z + 129) (.inl (G.2.2 0, 24, .inl (fun _ => 0))) H
theorem DX9.kept {G : Gx} {a z : Nat} {H H1 : Heap} (h : DX9 G a z H) (ho : ∀ q, (q = a ∨ (z ≤ q ∧ q < z + 130)) → H1[q]? = H[q]?) : DX9 G a z H1 := ⟨va_at.kept (h.1) (ho _ (by first | (left; rfl) | (right; dsimp only; omega))), DX5.kept (h.2.1) (fun q hq => ho q (by omega)), DX7.kept (h.2.2.1) (fun q hq => ho q (by omega)), DX6.kept (h.2.2.2.1) (fun q hq => ho q (by omega)), DX8.kept (h.2.2.2.2.1) (fun q hq => ho q (by omega)), DX2.kept (h.2.2.2.2.2.1) (fun q hq => ho q (by omega)), DX1.kept (h.2.2.2.2.2.2.1) (fun q hq => ho q (by omega)), va_at.kept (h.2.2.2.2.2.2.2) (ho _ (by first | (left; rfl) | (right; dsimp only; omega)))⟩
abbrev QX9 (G : Gx) (a z : Nat) (H : Heap) : Prop := H.size = z + 130 ∧ DX9 G a z H
set_option maxHeartbeats 4000000 in
set_option maxRecDepth 100000 in
theorem i_X9 (l : Launch) (G : Gx) (a z : Nat) (V : Nat → Value) : KM0 l yX9_init cX9_init 1 [.ref a] 3 130 35871 (KS G z (fun H => a < z ∧ KO G 9 13 a V H)) (QX9 G a z) (fun q => q = a ∨ z ≤ q) := by
  refine met_ofK (own := RX9) (by decide +kernel) rfl [(0, .ref a)] rfl (Nat.le_of_ble_eq_true rfl) ?_
  intro p e s m args below meth c ls hC hni hK hAO hz hP hl
  obtain ⟨haz, hO⟩ := hP
  have hni : meth.name = "<init>" := hni
  have hz : s.heap.size = z + 0 := hz
  have hS : va_S (fun q => q = a ∨ z ≤ q) s.heap s.heap [] := va_S.rf
  refine lv_aload_n hC.x hC.b dX9_init_0 rfl (lv_at hl 0 rfl) ?_
  refine kobj hC hl.1 TM_X9_1 TI_obj TC_obj dX9_init_1 (Nat.le_of_ble_eq_true rfl) (Nat.le_of_ble_eq_true rfl) ?_
  refine lv_aload_n hC.x hC.b dX9_init_4 rfl (lv_at hl 0 rfl) ?_
  refine knew (ci := 5) (h := z + 0) hC hK hS hz rfl uin_X5 tyX5 tyX5_ok TL_X9_7 TB_X5 TN_X5 (Nat.le_of_ble_eq_true rfl) (Nat.le_of_ble_eq_true rfl) dX9_init_5 (fun H hN zN oN hS => ?_)
  replace hO := KO.kept hO (oN _ (by omega))
  have hN_1 := hN
  clear hN
  replace hz : H.size = z + 1 := by omega
  clear zN oN
  refine lv_dup hC.x hC.b dX9_init_8 rfl ?_
  refine kinit (As := []) (rest := [.ref (z + 0), .ref a]) (h := z + 1) hC hl.1 hS hz hK hAO (i_X5 l G (z + 0) (z + 1) (fun k => defaultValue (tyX5 k))) (kcb hC.ts TC_X5_init TN_X5 TM_X9_9 hd_X5_init ⟨(Nat.le_of_ble_eq_true rfl), (Nat.le_of_ble_eq_true rfl)⟩) rfl TI_X5_init ⟨by omega, hN_1⟩ rfl rfl (Nat.le_of_ble_eq_true rfl) dX9_init_9 ⟨(Nat.le_of_ble_eq_true rfl), (Nat.le_of_ble_eq_true rfl)⟩ (fun q hq => yfree (by omega) (by omega) hq) (fun H locs hQ oN hS => ?_)
  replace hO := KO.kept hO (oN _ (by omega) (nfree (by omega) (by omega)))
  obtain ⟨hz2, hq_2⟩ := hQ
  replace hz : H.size = z + 100 := by omega
  clear oN hz2
  refine kputF hC hni hK hS (Or.inl rfl) hO rfl uin_X9 tyX9 tyX9_ok nmX9 0 (by decide) TF_X9_10 rfl rfl rfl rfl dX9_init_12 (fun H locs hO zN oN hS => ?_)
  replace hq_2 := DX5.kept hq_2 (fun q hq => (oN q (by omega)))
  replace hz : H.size = z + 100 := by omega
  clear zN oN
  refine lv_aload_n hC.x hC.b dX9_init_15 rfl (lv_at hl 0 rfl) ?_
  refine knew (ci := 7) (h := z + 100) hC hK hS hz rfl uin_X7 tyX7 tyX7_ok TL_X9_16 TB_X7 TN_X7 (Nat.le_of_ble_eq_true rfl) (Nat.le_of_ble_eq_true rfl) dX9_init_16 (fun H hN zN oN hS => ?_)
  replace hO := KO.kept hO (oN _ (by omega))
  replace hq_2 := DX5.kept hq_2 (fun q hq => (oN q (by omega)))
  have hN_3 := hN
  clear hN
  replace hz : H.size = z + 101 := by omega
  clear zN oN
  refine lv_dup hC.x hC.b dX9_init_19 rfl ?_
  refine kinit (As := []) (rest := [.ref (z + 100), .ref a]) (h := z + 101) hC hl.1 hS hz hK hAO (i_X7 l G (z + 100) (z + 101) (fun k => defaultValue (tyX7 k))) (kcb hC.ts TC_X7_init TN_X7 TM_X9_18 hd_X7_init ⟨(Nat.le_of_ble_eq_true rfl), (Nat.le_of_ble_eq_true rfl)⟩) rfl TI_X7_init ⟨by omega, hN_3⟩ rfl rfl (Nat.le_of_ble_eq_true rfl) dX9_init_20 ⟨(Nat.le_of_ble_eq_true rfl), (Nat.le_of_ble_eq_true rfl)⟩ (fun q hq => yfree (by omega) (by omega) hq) (fun H locs hQ oN hS => ?_)
  replace hO := KO.kept hO (oN _ (by omega) (nfree (by omega) (by omega)))
  replace hq_2 := DX5.kept hq_2 (fun q hq => (oN q (by omega) (nfree (by omega) (by omega))))
  obtain ⟨hz2, hq_4⟩ := hQ
  replace hz : H.size = z + 114 := by omega
  clear oN hz2
  refine kputF hC hni hK hS (Or.inl rfl) hO rfl uin_X9 tyX9 tyX9_ok nmX9 1 (by decide) TF_X9_19 rfl rfl rfl rfl dX9_init_23 (fun H locs hO zN oN hS => ?_)
  replace hq_2 := DX5.kept hq_2 (fun q hq => (oN q (by omega)))
  replace hq_4 := DX7.kept hq_4 (fun q hq => (oN q (by omega)))
  replace hz : H.size = z + 114 := by omega
  clear zN oN
  refine lv_aload_n hC.x hC.b dX9_init_26 rfl (lv_at hl 0 rfl) ?_
  refine knew (ci := 6) (h := z + 114) hC hK hS hz rfl uin_X6 tyX6 tyX6_ok TL_X9_23 TB_X6 TN_X6 (Nat.le_of_ble_eq_true rfl) (Nat.le_of_ble_eq_true rfl) dX9_init_27 (fun H hN zN oN hS => ?_)
  replace hO := KO.kept hO (oN _ (by omega))
  replace hq_2 := DX5.kept hq_2 (fun q hq => (oN q (by omega)))
  replace hq_4 := DX7.kept hq_4 (fun q hq => (oN q (by omega)))
  have hN_5 := hN
  clear hN
  replace hz : H.size = z + 115 := by omega
  clear zN oN
  refine lv_dup hC.x hC.b dX9_init_30 rfl ?_
  refine kinitN (As := []) (rest := [.ref (z + 114), .ref a]) (h := z + 115) hC hl.1 hS hz hK hAO (i_X6 l G (z + 114) (z + 115) (fun k => defaultValue (tyX6 k))) (kcn hC.ts TC_X6_init TN_X6 hK.2.2.1 hd_X6_init ⟨(Nat.le_of_ble_eq_true rfl), (Nat.le_of_ble_eq_true rfl)⟩) rfl TI_X6_init ⟨by omega, hN_5⟩ rfl rfl (Nat.le_of_ble_eq_true rfl) dX9_init_31 ⟨(Nat.le_of_ble_eq_true rfl), (Nat.le_of_ble_eq_true rfl)⟩ (fun q hq => yfree (by omega) (by omega) hq) (fun H locs hQ oN hS => ?_)
  replace hO := KO.kept hO (oN _ (by omega) (nfree (by omega) (by omega)))
  replace hq_2 := DX5.kept hq_2 (fun q hq => (oN q (by omega) (nfree (by omega) (by omega))))
  replace hq_4 := DX7.kept hq_4 (fun q hq => (oN q (by omega) (nfree (by omega) (by omega))))
  obtain ⟨hz2, hq_6⟩ := hQ
  replace hz : H.size = z + 118 := by omega
  clear oN hz2
  refine kputF hC hni hK hS (Or.inl rfl) hO rfl uin_X9 tyX9 tyX9_ok nmX9 2 (by decide) TF_X9_26 rfl rfl rfl rfl dX9_init_34 (fun H locs hO zN oN hS => ?_)
  replace hq_2 := DX5.kept hq_2 (fun q hq => (oN q (by omega)))
  replace hq_4 := DX7.kept hq_4 (fun q hq => (oN q (by omega)))
  replace hq_6 := DX6.kept hq_6 (fun q hq => (oN q (by omega)))
  replace hz : H.size = z + 118 := by omega
  clear zN oN
  refine lv_aload_n hC.x hC.b dX9_init_37 rfl (lv_at hl 0 rfl) ?_
  refine knew (ci := 8) (h := z + 118) hC hK hS hz rfl uin_X8 tyX8 tyX8_ok TL_X9_30 TB_X8 TN_X8 (Nat.le_of_ble_eq_true rfl) (Nat.le_of_ble_eq_true rfl) dX9_init_38 (fun H hN zN oN hS => ?_)
  replace hO := KO.kept hO (oN _ (by omega))
  replace hq_2 := DX5.kept hq_2 (fun q hq => (oN q (by omega)))
  replace hq_4 := DX7.kept hq_4 (fun q hq => (oN q (by omega)))
  replace hq_6 := DX6.kept hq_6 (fun q hq => (oN q (by omega)))
  have hN_7 := hN
  clear hN
  replace hz : H.size = z + 119 := by omega
  clear zN oN
  refine lv_dup hC.x hC.b dX9_init_41 rfl ?_
  refine lv_aload_n hC.x hC.b dX9_init_42 rfl (lv_at hl 0 rfl) ?_
  refine kget (v := .ref (z + 0)) hC hK hO rfl uin_X9 0 (by decide) TF_X9_10 rfl dX9_init_43 ?_
  refine kinit (As := [.ref (z + 0)]) (rest := [.ref (z + 118), .ref a]) (h := z + 119) hC hl.1 hS hz hK hAO (i_X8 l G (z + 118) (z + 119) (z + 0) (fun k => defaultValue (tyX8 k))) (kcb hC.ts TC_X8_init TN_X8 TM_X9_32 hd_X8_init ⟨(Nat.le_of_ble_eq_true rfl), (Nat.le_of_ble_eq_true rfl)⟩) rfl TI_X8_init ⟨by omega, hN_7⟩ rfl rfl (Nat.le_of_ble_eq_true rfl) dX9_init_46 ⟨(Nat.le_of_ble_eq_true rfl), (Nat.le_of_ble_eq_true rfl)⟩ (fun q hq => yfree (by omega) (by omega) hq) (fun H locs hQ oN hS => ?_)
  replace hO := KO.kept hO (oN _ (by omega) (nfree (by omega) (by omega)))
  replace hq_2 := DX5.kept hq_2 (fun q hq => (oN q (by omega) (nfree (by omega) (by omega))))
  replace hq_4 := DX7.kept hq_4 (fun q hq => (oN q (by omega) (nfree (by omega) (by omega))))
  replace hq_6 := DX6.kept hq_6 (fun q hq => (oN q (by omega) (nfree (by omega) (by omega))))
  obtain ⟨hz2, hq_8⟩ := hQ
  replace hz : H.size = z + 124 := by omega
  clear oN hz2
  refine kputF hC hni hK hS (Or.inl rfl) hO rfl uin_X9 tyX9 tyX9_ok nmX9 3 (by decide) TF_X9_35 rfl rfl rfl rfl dX9_init_49 (fun H locs hO zN oN hS => ?_)
  replace hq_2 := DX5.kept hq_2 (fun q hq => (oN q (by omega)))
  replace hq_4 := DX7.kept hq_4 (fun q hq => (oN q (by omega)))
  replace hq_6 := DX6.kept hq_6 (fun q hq => (oN q (by omega)))
  replace hq_8 := DX8.kept hq_8 (fun q hq => (oN q (by omega)))
  replace hz : H.size = z + 124 := by omega
  clear zN oN
  refine lv_aload_n hC.x hC.b dX9_init_52 rfl (lv_at hl 0 rfl) ?_
  refine knew (ci := 2) (h := z + 124) hC hK hS hz rfl uin_X2 tyX2 tyX2_ok TL_X9_39 TB_X2 TN_X2 (Nat.le_of_ble_eq_true rfl) (Nat.le_of_ble_eq_true rfl) dX9_init_53 (fun H hN zN oN hS => ?_)
  replace hO := KO.kept hO (oN _ (by omega))
  replace hq_2 := DX5.kept hq_2 (fun q hq => (oN q (by omega)))
  replace hq_4 := DX7.kept hq_4 (fun q hq => (oN q (by omega)))
  replace hq_6 := DX6.kept hq_6 (fun q hq => (oN q (by omega)))
  replace hq_8 := DX8.kept hq_8 (fun q hq => (oN q (by omega)))
  have hN_9 := hN
  clear hN
  replace hz : H.size = z + 125 := by omega
  clear zN oN
  refine lv_dup hC.x hC.b dX9_init_56 rfl ?_
  refine lv_aload_n hC.x hC.b dX9_init_57 rfl (lv_at hl 0 rfl) ?_
  refine kget (v := .ref (z + 100)) hC hK hO rfl uin_X9 1 (by decide) TF_X9_19 rfl dX9_init_58 ?_
  refine kinit (As := [.ref (z + 100)]) (rest := [.ref (z + 124), .ref a]) (h := z + 125) hC hl.1 hS hz hK hAO (i_X2 l G (z + 124) (z + 125) (z + 100) (fun k => defaultValue (tyX2 k))) (kcb hC.ts TC_X2_init TN_X2 TM_X9_41 hd_X2_init ⟨(Nat.le_of_ble_eq_true rfl), (Nat.le_of_ble_eq_true rfl)⟩) rfl TI_X2_init ⟨by omega, hN_9⟩ rfl rfl (Nat.le_of_ble_eq_true rfl) dX9_init_61 ⟨(Nat.le_of_ble_eq_true rfl), (Nat.le_of_ble_eq_true rfl)⟩ (fun q hq => yfree (by omega) (by omega) hq) (fun H locs hQ oN hS => ?_)
  replace hO := KO.kept hO (oN _ (by omega) (nfree (by omega) (by omega)))
  replace hq_2 := DX5.kept hq_2 (fun q hq => (oN q (by omega) (nfree (by omega) (by omega))))
  replace hq_4 := DX7.kept hq_4 (fun q hq => (oN q (by omega) (nfree (by omega) (by omega))))
  replace hq_6 := DX6.kept hq_6 (fun q hq => (oN q (by omega) (nfree (by omega) (by omega))))
  replace hq_8 := DX8.kept hq_8 (fun q hq => (oN q (by omega) (nfree (by omega) (by omega))))
  obtain ⟨hz2, hq_10⟩ := hQ
  replace hz : H.size = z + 127 := by omega
  clear oN hz2
  refine kputF hC hni hK hS (Or.inl rfl) hO rfl uin_X9 tyX9 tyX9_ok nmX9 4 (by decide) TF_X9_44 rfl rfl rfl rfl dX9_init_64 (fun H locs hO zN oN hS => ?_)
  replace hq_2 := DX5.kept hq_2 (fun q hq => (oN q (by omega)))
  replace hq_4 := DX7.kept hq_4 (fun q hq => (oN q (by omega)))
  replace hq_6 := DX6.kept hq_6 (fun q hq => (oN q (by omega)))
  replace hq_8 := DX8.kept hq_8 (fun q hq => (oN q (by omega)))
  replace hq_10 := DX2.kept hq_10 (fun q hq => (oN q (by omega)))
  replace hz : H.size = z + 127 := by omega
  clear zN oN
  refine lv_aload_n hC.x hC.b dX9_init_67 rfl (lv_at hl 0 rfl) ?_
  refine knew (ci := 1) (h := z + 127) hC hK hS hz rfl uin_X1 tyX1 tyX1_ok TL_X9_48 TB_X1 TN_X1 (Nat.le_of_ble_eq_true rfl) (Nat.le_of_ble_eq_true rfl) dX9_init_68 (fun H hN zN oN hS => ?_)
  replace hO := KO.kept hO (oN _ (by omega))
  replace hq_2 := DX5.kept hq_2 (fun q hq => (oN q (by omega)))
  replace hq_4 := DX7.kept hq_4 (fun q hq => (oN q (by omega)))
  replace hq_6 := DX6.kept hq_6 (fun q hq => (oN q (by omega)))
  replace hq_8 := DX8.kept hq_8 (fun q hq => (oN q (by omega)))
  replace hq_10 := DX2.kept hq_10 (fun q hq => (oN q (by omega)))
  have hN_11 := hN
  clear hN
  replace hz : H.size = z + 128 := by omega
  clear zN oN
  refine lv_dup hC.x hC.b dX9_init_71 rfl ?_
  refine lv_aload_n hC.x hC.b dX9_init_72 rfl (lv_at hl 0 rfl) ?_
  refine kget (v := .ref (z + 0)) hC hK hO rfl uin_X9 0 (by decide) TF_X9_10 rfl dX9_init_73 ?_
  refine lv_aload_n hC.x hC.b dX9_init_76 rfl (lv_at hl 0 rfl) ?_
  refine kget (v := .ref (z + 118)) hC hK hO rfl uin_X9 3 (by decide) TF_X9_35 rfl dX9_init_77 ?_
  refine lv_aload_n hC.x hC.b dX9_init_80 rfl (lv_at hl 0 rfl) ?_
  refine kget (v := .ref (z + 100)) hC hK hO rfl uin_X9 1 (by decide) TF_X9_19 rfl dX9_init_81 ?_
  refine lv_aload_n hC.x hC.b dX9_init_84 rfl (lv_at hl 0 rfl) ?_
  refine kget (v := .ref (z + 124)) hC hK hO rfl uin_X9 4 (by decide) TF_X9_44 rfl dX9_init_85 ?_
  refine lv_aload_n hC.x hC.b dX9_init_88 rfl (lv_at hl 0 rfl) ?_
  refine kget (v := .ref (z + 114)) hC hK hO rfl uin_X9 2 (by decide) TF_X9_26 rfl dX9_init_89 ?_
  refine kinit (As := [.ref (z + 0), .ref (z + 118), .ref (z + 100), .ref (z + 124), .ref (z + 114)]) (rest := [.ref (z + 127), .ref a]) (h := z + 128) hC hl.1 hS hz hK hAO (i_X1 l G (z + 127) (z + 128) (z + 0) (z + 118) (z + 100) (z + 124) (z + 114) (fun k => defaultValue (tyX1 k))) (kcb hC.ts TC_X1_init TN_X1 TM_X9_50 hd_X1_init ⟨(Nat.le_of_ble_eq_true rfl), (Nat.le_of_ble_eq_true rfl)⟩) rfl TI_X1_init ⟨by omega, hN_11⟩ rfl rfl (Nat.le_of_ble_eq_true rfl) dX9_init_92 ⟨(Nat.le_of_ble_eq_true rfl), (Nat.le_of_ble_eq_true rfl)⟩ (fun q hq => yfree (by omega) (by omega) hq) (fun H locs hQ oN hS => ?_)
  replace hO := KO.kept hO (oN _ (by omega) (nfree (by omega) (by omega)))
  replace hq_2 := DX5.kept hq_2 (fun q hq => (oN q (by omega) (nfree (by omega) (by omega))))
  replace hq_4 := DX7.kept hq_4 (fun q hq => (oN q (by omega) (nfree (by omega) (by omega))))
  replace hq_6 := DX6.kept hq_6 (fun q hq => (oN q (by omega) (nfree (by omega) (by omega))))
  replace hq_8 := DX8.kept hq_8 (fun q hq => (oN q (by omega) (nfree (by omega) (by omega))))
  replace hq_10 := DX2.kept hq_10 (fun q hq => (oN q (by omega) (nfree (by omega) (by omega))))
  obtain ⟨hz2, hq_12⟩ := hQ
  replace hz : H.size = z + 129 := by omega
  clear oN hz2
  refine kputF hC hni hK hS (Or.inl rfl) hO rfl uin_X9 tyX9 tyX9_ok nmX9 5 (by decide) TF_X9_53 rfl rfl rfl rfl dX9_init_95 (fun H locs hO zN oN hS => ?_)
  replace hq_2 := DX5.kept hq_2 (fun q hq => (oN q (by omega)))
  replace hq_4 := DX7.kept hq_4 (fun q hq => (oN q (by omega)))
  replace hq_6 := DX6.kept hq_6 (fun q hq => (oN q (by omega)))
  replace hq_8 := DX8.kept hq_8 (fun q hq => (oN q (by omega)))
  replace hq_10 := DX2.kept hq_10 (fun q hq => (oN q (by omega)))
  replace hq_12 := DX1.kept hq_12 (fun q hq => (oN q (by omega)))
  replace hz : H.size = z + 129 := by omega
  clear zN oN
  refine lv_aload_n hC.x hC.b dX9_init_98 rfl (lv_at hl 0 rfl) ?_
  refine lv_bipush (v := 24) hC.x hC.b dX9_init_99 (by decide) ?_
  refine knewi (h := z + 129) hC hK hS hz (N := 24) (by decide) rfl (Nat.le_of_ble_eq_true rfl) (Nat.le_of_ble_eq_true rfl) (Nat.le_of_ble_eq_true rfl) dX9_init_101 (fun H hN zN oN hS => ?_)
  replace hO := KO.kept hO (oN _ (by omega))
  replace hq_2 := DX5.kept hq_2 (fun q hq => (oN q (by omega)))
  replace hq_4 := DX7.kept hq_4 (fun q hq => (oN q (by omega)))
  replace hq_6 := DX6.kept hq_6 (fun q hq => (oN q (by omega)))
  replace hq_8 := DX8.kept hq_8 (fun q hq => (oN q (by omega)))
  replace hq_10 := DX2.kept hq_10 (fun q hq => (oN q (by omega)))
  replace hq_12 := DX1.kept hq_12 (fun q hq => (oN q (by omega)))
  have hN_13 : AT G (z + 129) (.inl (G.2.2 0, 24, .inl (fun _ => 0))) H := hN
  clear hN
  replace hz : H.size = z + 130 := by omega
  clear zN oN
  refine kputF hC hni hK hS (Or.inl rfl) hO rfl uin_X9 tyX9 tyX9_ok nmX9 6 (by decide) TF_X9_57 rfl rfl rfl rfl dX9_init_103 (fun H locs hO zN oN hS => ?_)
  replace hq_2 := DX5.kept hq_2 (fun q hq => (oN q (by omega)))
  replace hq_4 := DX7.kept hq_4 (fun q hq => (oN q (by omega)))
  replace hq_6 := DX6.kept hq_6 (fun q hq => (oN q (by omega)))
  replace hq_8 := DX8.kept hq_8 (fun q hq => (oN q (by omega)))
  replace hq_10 := DX2.kept hq_10 (fun q hq => (oN q (by omega)))
  replace hq_12 := DX1.kept hq_12 (fun q hq => (oN q (by omega)))
  replace hN_13 := va_at.kept hN_13 (oN _ (by omega))
  replace hz : H.size = z + 130 := by omega
  clear zN oN
  refine lv_aload_n hC.x hC.b dX9_init_106 rfl (lv_at hl 0 rfl) ?_
  refine lv_iconst (v := 0) hC.x hC.b dX9_init_107 (by decide) ?_
  refine kput hC hK hS (Or.inl rfl) hO rfl uin_X9 tyX9 tyX9_ok nmX9 7 (by decide) TF_X9_61 rfl rfl rfl dX9_init_108 (fun H locs hO zN oN hS => ?_)
  replace hq_2 := DX5.kept hq_2 (fun q hq => (oN q (by omega)))
  replace hq_4 := DX7.kept hq_4 (fun q hq => (oN q (by omega)))
  replace hq_6 := DX6.kept hq_6 (fun q hq => (oN q (by omega)))
  replace hq_8 := DX8.kept hq_8 (fun q hq => (oN q (by omega)))
  replace hq_10 := DX2.kept hq_10 (fun q hq => (oN q (by omega)))
  replace hq_12 := DX1.kept hq_12 (fun q hq => (oN q (by omega)))
  replace hN_13 := va_at.kept hN_13 (oN _ (by omega))
  replace hz : H.size = z + 130 := by omega
  clear zN oN
  refine lv_aload_n hC.x hC.b dX9_init_111 rfl (lv_at hl 0 rfl) ?_
  refine lv_iconst (v := 0) hC.x hC.b dX9_init_112 (by decide) ?_
  refine kput hC hK hS (Or.inl rfl) hO rfl uin_X9 tyX9 tyX9_ok nmX9 8 (by decide) TF_X9_65 rfl rfl rfl dX9_init_113 (fun H locs hO zN oN hS => ?_)
  replace hq_2 := DX5.kept hq_2 (fun q hq => (oN q (by omega)))
  replace hq_4 := DX7.kept hq_4 (fun q hq => (oN q (by omega)))
  replace hq_6 := DX6.kept hq_6 (fun q hq => (oN q (by omega)))
  replace hq_8 := DX8.kept hq_8 (fun q hq => (oN q (by omega)))
  replace hq_10 := DX2.kept hq_10 (fun q hq => (oN q (by omega)))
  replace hq_12 := DX1.kept hq_12 (fun q hq => (oN q (by omega)))
  replace hN_13 := va_at.kept hN_13 (oN _ (by omega))
  replace hz : H.size = z + 130 := by omega
  clear zN oN
  refine lv_aload_n hC.x hC.b dX9_init_116 rfl (lv_at hl 0 rfl) ?_
  refine lv_bipush (v := 40) hC.x hC.b dX9_init_117 (by decide) ?_
  refine kput hC hK hS (Or.inl rfl) hO rfl uin_X9 tyX9 tyX9_ok nmX9 9 (by decide) TF_X9_68 rfl rfl rfl dX9_init_119 (fun H locs hO zN oN hS => ?_)
  replace hq_2 := DX5.kept hq_2 (fun q hq => (oN q (by omega)))
  replace hq_4 := DX7.kept hq_4 (fun q hq => (oN q (by omega)))
  replace hq_6 := DX6.kept hq_6 (fun q hq => (oN q (by omega)))
  replace hq_8 := DX8.kept hq_8 (fun q hq => (oN q (by omega)))
  replace hq_10 := DX2.kept hq_10 (fun q hq => (oN q (by omega)))
  replace hq_12 := DX1.kept hq_12 (fun q hq => (oN q (by omega)))
  replace hN_13 := va_at.kept hN_13 (oN _ (by omega))
  replace hz : H.size = z + 130 := by omega
  clear zN oN
  refine lv_aload_n hC.x hC.b dX9_init_122 rfl (lv_at hl 0 rfl) ?_
  refine lv_iconst (v := 5) hC.x hC.b dX9_init_123 (by decide) ?_
  refine kput hC hK hS (Or.inl rfl) hO rfl uin_X9 tyX9 tyX9_ok nmX9 10 (by decide) TF_X9_71 rfl rfl rfl dX9_init_124 (fun H locs hO zN oN hS => ?_)
  replace hq_2 := DX5.kept hq_2 (fun q hq => (oN q (by omega)))
  replace hq_4 := DX7.kept hq_4 (fun q hq => (oN q (by omega)))
  replace hq_6 := DX6.kept hq_6 (fun q hq => (oN q (by omega)))
  replace hq_8 := DX8.kept hq_8 (fun q hq => (oN q (by omega)))
  replace hq_10 := DX2.kept hq_10 (fun q hq => (oN q (by omega)))
  replace hq_12 := DX1.kept hq_12 (fun q hq => (oN q (by omega)))
  replace hN_13 := va_at.kept hN_13 (oN _ (by omega))
  replace hz : H.size = z + 130 := by omega
  clear zN oN
  refine lv_aload_n hC.x hC.b dX9_init_127 rfl (lv_at hl 0 rfl) ?_
  refine lv_bipush (v := 10) hC.x hC.b dX9_init_128 (by decide) ?_
  refine kput hC hK hS (Or.inl rfl) hO rfl uin_X9 tyX9 tyX9_ok nmX9 11 (by decide) TF_X9_74 rfl rfl rfl dX9_init_130 (fun H locs hO zN oN hS => ?_)
  replace hq_2 := DX5.kept hq_2 (fun q hq => (oN q (by omega)))
  replace hq_4 := DX7.kept hq_4 (fun q hq => (oN q (by omega)))
  replace hq_6 := DX6.kept hq_6 (fun q hq => (oN q (by omega)))
  replace hq_8 := DX8.kept hq_8 (fun q hq => (oN q (by omega)))
  replace hq_10 := DX2.kept hq_10 (fun q hq => (oN q (by omega)))
  replace hq_12 := DX1.kept hq_12 (fun q hq => (oN q (by omega)))
  replace hN_13 := va_at.kept hN_13 (oN _ (by omega))
  replace hz : H.size = z + 130 := by omega
  clear zN oN
  refine lv_aload_n hC.x hC.b dX9_init_133 rfl (lv_at hl 0 rfl) ?_
  refine lv_iconst (v := 0) hC.x hC.b dX9_init_134 (by decide) ?_
  refine kput hC hK hS (Or.inl rfl) hO rfl uin_X9 tyX9 tyX9_ok nmX9 12 (by decide) TF_X9_77 rfl rfl rfl dX9_init_135 (fun H locs hO zN oN hS => ?_)
  replace hq_2 := DX5.kept hq_2 (fun q hq => (oN q (by omega)))
  replace hq_4 := DX7.kept hq_4 (fun q hq => (oN q (by omega)))
  replace hq_6 := DX6.kept hq_6 (fun q hq => (oN q (by omega)))
  replace hq_8 := DX8.kept hq_8 (fun q hq => (oN q (by omega)))
  replace hq_10 := DX2.kept hq_10 (fun q hq => (oN q (by omega)))
  replace hq_12 := DX1.kept hq_12 (fun q hq => (oN q (by omega)))
  replace hN_13 := va_at.kept hN_13 (oN _ (by omega))
  replace hz : H.size = z + 130 := by omega
  clear zN oN
  exact kret hC hS ⟨by omega, ⟨_, rfl, hO.to (fun j hj => by rcases (show j = 0 ∨ j = 1 ∨ j = 2 ∨ j = 3 ∨ j = 4 ∨ j = 5 ∨ j = 6 ∨ j = 7 ∨ j = 8 ∨ j = 9 ∨ j = 10 ∨ j = 11 ∨ j = 12 by omega) with rfl | rfl | rfl | rfl | rfl | rfl | rfl | rfl | rfl | rfl | rfl | rfl | rfl <;> rfl)⟩, hq_2, hq_4, hq_6, hq_8, hq_10, hq_12, hN_13⟩ (Nat.le_of_ble_eq_true rfl) (Nat.le_of_ble_eq_true rfl) dX9_init_138
