abbrev DX7 (G : Gx) (a z : Nat) (H : Heap) : Prop := AT G a (.inr (7, [.ref (z + 0), .ref (z + 6)])) H ∧ AT G (z + 0) (.inl (G.2.2 4, 5, .inr (.inr (.inr (.inr (fun i => if i < 5 then some (z + 0 + 1 + i) else none)))))) H ∧ AT G (z + 6) (.inl (G.2.2 4, 6, .inr (.inr (.inr (.inr (fun i => if i < 6 then some (z + 6 + 1 + i) else none)))))) H ∧ AT G (z + 0 + 1 + 0) (.inl (G.2.2 0, 4800, .inl (fun _ => (2000000000)))) H ∧ AT G (z + 0 + 1 + 1) (.inl (G.2.2 0, 4800, .inl (fun _ => (2000000000)))) H ∧ AT G (z + 0 + 1 + 2) (.inl (G.2.2 0, 4800, .inl (fun _ => (2000000000)))) H ∧ AT G (z + 0 + 1 + 3) (.inl (G.2.2 0, 4800, .inl (fun _ => (0)))) H ∧ AT G (z + 0 + 1 + 4) (.inl (G.2.2 0, 4800, .inl (fun _ => (2000000000)))) H ∧ AT G (z + 6 + 1 + 0) (.inl (G.2.2 0, 200, .inl (fun _ => (-1)))) H ∧ AT G (z + 6 + 1 + 1) (.inl (G.2.2 0, 200, .inl (fun _ => (-1)))) H ∧ AT G (z + 6 + 1 + 2) (.inl (G.2.2 0, 200, .inl (fun _ => (-1)))) H ∧ AT G (z + 6 + 1 + 3) (.inl (G.2.2 0, 200, .inl (fun _ => (-1)))) H ∧ AT G (z + 6 + 1 + 4) (.inl (G.2.2 0, 200, .inl (fun _ => (-1)))) H ∧ AT G (z + 6 + 1 + 5) (.inl (G.2.2 0, 200, .inl (fun _ => (-1)))) H
theorem DX7.kept {G : Gx} {a z : Nat} {H H1 : Heap} (h : DX7 G a z H) (ho : ∀ q, (q = a ∨ (z ≤ q ∧ q < z + 13)) → H1[q]? = H[q]?) : DX7 G a z H1 := ⟨va_at.kept (h.1) (ho _ (by first | (left; rfl) | (right; dsimp only; omega))), va_at.kept (h.2.1) (ho _ (by first | (left; rfl) | (right; dsimp only; omega))), va_at.kept (h.2.2.1) (ho _ (by first | (left; rfl) | (right; dsimp only; omega))), va_at.kept (h.2.2.2.1) (ho _ (by first | (left; rfl) | (right; dsimp only; omega))), va_at.kept (h.2.2.2.2.1) (ho _ (by first | (left; rfl) | (right; dsimp only; omega))), va_at.kept (h.2.2.2.2.2.1) (ho _ (by first | (left; rfl) | (right; dsimp only; omega))), va_at.kept (h.2.2.2.2.2.2.1) (ho _ (by first | (left; rfl) | (right; dsimp only; omega))), va_at.kept (h.2.2.2.2.2.2.2.1) (ho _ (by first | (left; rfl) | (right; dsimp only; omega))), va_at.kept (h.2.2.2.2.2.2.2.2.1) (ho _ (by first | (left; rfl) | (right; dsimp only; omega))), va_at.kept (h.2.2.2.2.2.2.2.2.2.1) (ho _ (by first | (left; rfl) | (right; dsimp only; omega))), va_at.kept (h.2.2.2.2.2.2.2.2.2.2.1) (ho _ (by first | (left; rfl) | (right; dsimp only; omega))), va_at.kept (h.2.2.2.2.2.2.2.2.2.2.2.1) (ho _ (by first | (left; rfl) | (right; dsimp only; omega))), va_at.kept (h.2.2.2.2.2.2.2.2.2.2.2.2.1) (ho _ (by first | (left; rfl) | (right; dsimp only; omega))), va_at.kept (h.2.2.2.2.2.2.2.2.2.2.2.2.2) (ho _ (by first | (left; rfl) | (right; dsimp only; omega)))⟩
abbrev QX7 (G : Gx) (a z : Nat) (H : Heap) : Prop := H.size = z + 13 ∧ DX7 G a z H
set_option maxHeartbeats 4000000 in
set_option maxRecDepth 100000 in
theorem i_X7 (l : Launch) (G : Gx) (a z : Nat) (V : Nat → Value) : KM0 l yX7_init cX7_init 2 [.ref a] 1 13 25211 (KS G z (fun H => a < z ∧ KO G 7 2 a V H)) (QX7 G a z) (fun q => q = a ∨ z ≤ q) := by
  refine met_ofK (own := RX7) (by decide +kernel) rfl [(0, .ref a)] rfl (Nat.le_of_ble_eq_true rfl) ?_
  intro p e s m args below meth c ls hC hni hK hAO hz hP hl
  obtain ⟨haz, hO⟩ := hP
  have hni : meth.name = "<init>" := hni
  have hz : s.heap.size = z + 0 := hz
  have hS : va_S (fun q => q = a ∨ z ≤ q) s.heap s.heap [] := va_S.rf
  refine lv_aload_n hC.x hC.b dX7_init_0 rfl (lv_at hl 0 rfl) ?_
  refine kobj hC hl.1 TM_X7_3 TI_obj TC_obj dX7_init_1 (Nat.le_of_ble_eq_true rfl) (Nat.le_of_ble_eq_true rfl) ?_
  refine lv_aload_n hC.x hC.b dX7_init_4 rfl (lv_at hl 0 rfl) ?_
  refine lv_iconst (v := 5) hC.x hC.b dX7_init_5 (by decide) ?_
  refine lv_sipush (v := 4800) hC.x hC.b dX7_init_6 (by decide) ?_
  refine knewm (h := z + 0) hC hK hS hz (Or.inr (by omega)) (x := 5) (y := 4800) TL_X7_9 hAO.2.2 (by decide) rfl (by decide) rfl (Nat.le_of_ble_eq_true rfl) (Nat.le_of_ble_eq_true rfl) (Nat.le_of_ble_eq_true rfl) (Nat.le_of_ble_eq_true rfl) dX7_init_9 (fun H locs hN hM zN oN hS => ?_)
  replace hO := KO.kept hO (oN _ (by omega))
  have hN_1 : AT G (z + 0) (.inl (G.2.2 4, 5, .inr (.inr (.inr (.inr (fun i => if i < 5 then some (z + 0 + 1 + i) else none)))))) H := hN
  have hr_2 : AT G (z + 0 + 1 + 0) (.inl (G.2.2 0, 4800, .inl (fun _ => 0))) H := hM 0 (by decide)
  have hr_3 : AT G (z + 0 + 1 + 1) (.inl (G.2.2 0, 4800, .inl (fun _ => 0))) H := hM 1 (by decide)
  have hr_4 : AT G (z + 0 + 1 + 2) (.inl (G.2.2 0, 4800, .inl (fun _ => 0))) H := hM 2 (by decide)
  have hr_5 : AT G (z + 0 + 1 + 3) (.inl (G.2.2 0, 4800, .inl (fun _ => 0))) H := hM 3 (by decide)
  have hr_6 : AT G (z + 0 + 1 + 4) (.inl (G.2.2 0, 4800, .inl (fun _ => 0))) H := hM 4 (by decide)
  replace hz : H.size = z + 6 := by omega
  clear zN oN
  refine kputF hC hni hK hS (Or.inl rfl) hO rfl uin_X7 tyX7 tyX7_ok nmX7 0 (by decide) TF_X7_11 rfl rfl rfl rfl dX7_init_13 (fun H locs hO zN oN hS => ?_)
  replace hN_1 := va_at.kept hN_1 (oN _ (by omega))
  replace hr_2 := va_at.kept hr_2 (oN _ (by omega))
  replace hr_3 := va_at.kept hr_3 (oN _ (by omega))
  replace hr_4 := va_at.kept hr_4 (oN _ (by omega))
  replace hr_5 := va_at.kept hr_5 (oN _ (by omega))
  replace hr_6 := va_at.kept hr_6 (oN _ (by omega))
  replace hz : H.size = z + 6 := by omega
  clear zN oN
  refine lv_aload_n hC.x hC.b dX7_init_16 rfl (lv_at hl 0 rfl) ?_
  refine lv_bipush (v := 6) hC.x hC.b dX7_init_17 (by decide) ?_
  refine lv_sipush (v := 200) hC.x hC.b dX7_init_19 (by decide) ?_
  refine knewm (h := z + 6) hC hK hS hz (Or.inr (by omega)) (x := 6) (y := 200) TL_X7_9 hAO.2.2 (by decide) rfl (by decide) rfl (Nat.le_of_ble_eq_true rfl) (Nat.le_of_ble_eq_true rfl) (Nat.le_of_ble_eq_true rfl) (Nat.le_of_ble_eq_true rfl) dX7_init_22 (fun H locs hN hM zN oN hS => ?_)
  replace hO := KO.kept hO (oN _ (by omega))
  replace hN_1 := va_at.kept hN_1 (oN _ (by omega))
  replace hr_2 := va_at.kept hr_2 (oN _ (by omega))
  replace hr_3 := va_at.kept hr_3 (oN _ (by omega))
  replace hr_4 := va_at.kept hr_4 (oN _ (by omega))
  replace hr_5 := va_at.kept hr_5 (oN _ (by omega))
  replace hr_6 := va_at.kept hr_6 (oN _ (by omega))
  have hN_7 : AT G (z + 6) (.inl (G.2.2 4, 6, .inr (.inr (.inr (.inr (fun i => if i < 6 then some (z + 6 + 1 + i) else none)))))) H := hN
  have hr_8 : AT G (z + 6 + 1 + 0) (.inl (G.2.2 0, 200, .inl (fun _ => 0))) H := hM 0 (by decide)
  have hr_9 : AT G (z + 6 + 1 + 1) (.inl (G.2.2 0, 200, .inl (fun _ => 0))) H := hM 1 (by decide)
  have hr_10 : AT G (z + 6 + 1 + 2) (.inl (G.2.2 0, 200, .inl (fun _ => 0))) H := hM 2 (by decide)
  have hr_11 : AT G (z + 6 + 1 + 3) (.inl (G.2.2 0, 200, .inl (fun _ => 0))) H := hM 3 (by decide)
  have hr_12 : AT G (z + 6 + 1 + 4) (.inl (G.2.2 0, 200, .inl (fun _ => 0))) H := hM 4 (by decide)
  have hr_13 : AT G (z + 6 + 1 + 5) (.inl (G.2.2 0, 200, .inl (fun _ => 0))) H := hM 5 (by decide)
  replace hz : H.size = z + 13 := by omega
  clear zN oN
  refine kputF hC hni hK hS (Or.inl rfl) hO rfl uin_X7 tyX7 tyX7_ok nmX7 1 (by decide) TF_X7_16 rfl rfl rfl rfl dX7_init_26 (fun H locs hO zN oN hS => ?_)
  replace hN_1 := va_at.kept hN_1 (oN _ (by omega))
  replace hr_2 := va_at.kept hr_2 (oN _ (by omega))
  replace hr_3 := va_at.kept hr_3 (oN _ (by omega))
  replace hr_4 := va_at.kept hr_4 (oN _ (by omega))
  replace hr_5 := va_at.kept hr_5 (oN _ (by omega))
  replace hr_6 := va_at.kept hr_6 (oN _ (by omega))
  replace hN_7 := va_at.kept hN_7 (oN _ (by omega))
  replace hr_8 := va_at.kept hr_8 (oN _ (by omega))
  replace hr_9 := va_at.kept hr_9 (oN _ (by omega))
  replace hr_10 := va_at.kept hr_10 (oN _ (by omega))
  replace hr_11 := va_at.kept hr_11 (oN _ (by omega))
  replace hr_12 := va_at.kept hr_12 (oN _ (by omega))
  replace hr_13 := va_at.kept hr_13 (oN _ (by omega))
  replace hz : H.size = z + 13 := by omega
  clear zN oN
  refine lv_iconst (v := 0) hC.x hC.b dX7_init_29 (by decide) ?_
  refine lv_istore_n (lv' := [(1, .int (0)), (0, .ref a)]) hC.x hC.b dX7_init_30 rfl hl (by decide) rfl (fun ls hl => ?_)
  refine lv_iload_n hC.x hC.b dX7_init_31 rfl (lv_at hl 0 rfl) ?_
  refine lv_iconst (v := 5) hC.x hC.b dX7_init_32 (by decide) ?_
  refine bi_ge (tgt := 62) (a := 0) (b := 5) hC.x hC.b (by decide) (by decide) dX7_init_33 (by decide) (fun q => absurd q (by decide)) (fun _ => ?_)
  refine lv_aload_n hC.x hC.b dX7_init_36 rfl (lv_at hl 1 rfl) ?_
  refine kget (v := .ref (z + 0)) hC hK hO rfl uin_X7 0 (by decide) TF_X7_11 rfl dX7_init_37 ?_
  refine lv_iload_n hC.x hC.b dX7_init_40 rfl (lv_at hl 0 rfl) ?_
  refine kqald (t := 4) (a := (z + 0)) (n := 5) (i := (0 : Int32)) (v := .ref (z + 0 + 1 + 0)) hC hK rfl rfl hN_1 (vin (t := 0) (by decide) (by decide) (by decide)) (by rw [show (0 : Int32).toNatClampNeg = 0 from by decide]; rfl) dX7_init_41 ?_
  refine lv_iload_n hC.x hC.b dX7_init_42 rfl (lv_at hl 0 rfl) ?_
  refine lv_iconst (v := 3) hC.x hC.b dX7_init_43 (by decide) ?_
  refine bi_ne (tgt := 51) (a := 0) (b := 3) hC.x hC.b (by decide) (by decide) dX7_init_44 (by decide) (fun _ => ?_) (fun q => absurd q (by decide))
  refine lv_ldc hC.x hC.b hC.ow (hC.ts _ TK_X7_19) dX7_init_51 ?_
  refine kstat (As := [.ref (z + 0 + 1 + 0), .int (2000000000)]) (rest := []) (h := z + 13) hC hl.1 hS hz hK hAO (i_fill l G (z + 0 + 1 + 0) (z + 13) 4800 (2000000000) (fun _ => 0) (by decide)) (kcb hC.ts TC_J7_fill_53178 TN_J7 TM_X7_20 hd_J7_fill_53178 ⟨(Nat.le_of_ble_eq_true rfl), (Nat.le_of_ble_eq_true rfl)⟩) TT_J7_fill_53178 hr_2 rfl rfl (Nat.le_of_ble_eq_true rfl) dX7_init_53 ⟨(Nat.le_of_ble_eq_true rfl), (Nat.le_of_ble_eq_true rfl)⟩ (fun q hq => Or.inr (by rcases hq with rfl; omega)) (fun H locs hQ oN hS => ?_)
  replace hO := KO.kept hO (oN _ (by omega) (nfr1 (by omega)))
  replace hN_1 := va_at.kept hN_1 (oN _ (by omega) (nfr1 (by omega)))
  replace hr_3 := va_at.kept hr_3 (oN _ (by omega) (nfr1 (by omega)))
  replace hr_4 := va_at.kept hr_4 (oN _ (by omega) (nfr1 (by omega)))
  replace hr_5 := va_at.kept hr_5 (oN _ (by omega) (nfr1 (by omega)))
  replace hr_6 := va_at.kept hr_6 (oN _ (by omega) (nfr1 (by omega)))
  replace hN_7 := va_at.kept hN_7 (oN _ (by omega) (nfr1 (by omega)))
  replace hr_8 := va_at.kept hr_8 (oN _ (by omega) (nfr1 (by omega)))
  replace hr_9 := va_at.kept hr_9 (oN _ (by omega) (nfr1 (by omega)))
  replace hr_10 := va_at.kept hr_10 (oN _ (by omega) (nfr1 (by omega)))
  replace hr_11 := va_at.kept hr_11 (oN _ (by omega) (nfr1 (by omega)))
  replace hr_12 := va_at.kept hr_12 (oN _ (by omega) (nfr1 (by omega)))
  replace hr_13 := va_at.kept hr_13 (oN _ (by omega) (nfr1 (by omega)))
  replace hr_2 : AT G (z + 0 + 1 + 0) (.inl (G.2.2 0, 4800, .inl (fun _ => (2000000000)))) H := hQ.2
  replace hz : H.size = z + 13 := hQ.1
  clear oN hQ
  refine lv_iinc (v := (1 : Int32)) (lv' := [(1, .int (1)), (0, .ref a)]) hC.x hC.b dX7_init_56 hl (k := 0) rfl (by decide) (by decide) rfl (fun ls hl => ?_)
  refine lv_goto (tgt := 31) hC.x hC.b dX7_init_59 (by decide) ?_
  refine lv_iload_n hC.x hC.b dX7_init_31 rfl (lv_at hl 0 rfl) ?_
  refine lv_iconst (v := 5) hC.x hC.b dX7_init_32 (by decide) ?_
  refine bi_ge (tgt := 62) (a := 1) (b := 5) hC.x hC.b (by decide) (by decide) dX7_init_33 (by decide) (fun q => absurd q (by decide)) (fun _ => ?_)
  refine lv_aload_n hC.x hC.b dX7_init_36 rfl (lv_at hl 1 rfl) ?_
  refine kget (v := .ref (z + 0)) hC hK hO rfl uin_X7 0 (by decide) TF_X7_11 rfl dX7_init_37 ?_
  refine lv_iload_n hC.x hC.b dX7_init_40 rfl (lv_at hl 0 rfl) ?_
  refine kqald (t := 4) (a := (z + 0)) (n := 5) (i := (1 : Int32)) (v := .ref (z + 0 + 1 + 1)) hC hK rfl rfl hN_1 (vin (t := 1) (by decide) (by decide) (by decide)) (by rw [show (1 : Int32).toNatClampNeg = 1 from by decide]; rfl) dX7_init_41 ?_
  refine lv_iload_n hC.x hC.b dX7_init_42 rfl (lv_at hl 0 rfl) ?_
  refine lv_iconst (v := 3) hC.x hC.b dX7_init_43 (by decide) ?_
  refine bi_ne (tgt := 51) (a := 1) (b := 3) hC.x hC.b (by decide) (by decide) dX7_init_44 (by decide) (fun _ => ?_) (fun q => absurd q (by decide))
  refine lv_ldc hC.x hC.b hC.ow (hC.ts _ TK_X7_19) dX7_init_51 ?_
  refine kstat (As := [.ref (z + 0 + 1 + 1), .int (2000000000)]) (rest := []) (h := z + 13) hC hl.1 hS hz hK hAO (i_fill l G (z + 0 + 1 + 1) (z + 13) 4800 (2000000000) (fun _ => 0) (by decide)) (kcb hC.ts TC_J7_fill_53178 TN_J7 TM_X7_20 hd_J7_fill_53178 ⟨(Nat.le_of_ble_eq_true rfl), (Nat.le_of_ble_eq_true rfl)⟩) TT_J7_fill_53178 hr_3 rfl rfl (Nat.le_of_ble_eq_true rfl) dX7_init_53 ⟨(Nat.le_of_ble_eq_true rfl), (Nat.le_of_ble_eq_true rfl)⟩ (fun q hq => Or.inr (by rcases hq with rfl; omega)) (fun H locs hQ oN hS => ?_)
  replace hO := KO.kept hO (oN _ (by omega) (nfr1 (by omega)))
  replace hN_1 := va_at.kept hN_1 (oN _ (by omega) (nfr1 (by omega)))
  replace hr_4 := va_at.kept hr_4 (oN _ (by omega) (nfr1 (by omega)))
  replace hr_5 := va_at.kept hr_5 (oN _ (by omega) (nfr1 (by omega)))
  replace hr_6 := va_at.kept hr_6 (oN _ (by omega) (nfr1 (by omega)))
  replace hN_7 := va_at.kept hN_7 (oN _ (by omega) (nfr1 (by omega)))
  replace hr_8 := va_at.kept hr_8 (oN _ (by omega) (nfr1 (by omega)))
  replace hr_9 := va_at.kept hr_9 (oN _ (by omega) (nfr1 (by omega)))
  replace hr_10 := va_at.kept hr_10 (oN _ (by omega) (nfr1 (by omega)))
  replace hr_11 := va_at.kept hr_11 (oN _ (by omega) (nfr1 (by omega)))
  replace hr_12 := va_at.kept hr_12 (oN _ (by omega) (nfr1 (by omega)))
  replace hr_13 := va_at.kept hr_13 (oN _ (by omega) (nfr1 (by omega)))
  replace hr_2 := va_at.kept hr_2 (oN _ (by omega) (nfr1 (by omega)))
  replace hr_3 : AT G (z + 0 + 1 + 1) (.inl (G.2.2 0, 4800, .inl (fun _ => (2000000000)))) H := hQ.2
  replace hz : H.size = z + 13 := hQ.1
  clear oN hQ
  refine lv_iinc (v := (2 : Int32)) (lv' := [(1, .int (2)), (0, .ref a)]) hC.x hC.b dX7_init_56 hl (k := 0) rfl (by decide) (by decide) rfl (fun ls hl => ?_)
  refine lv_goto (tgt := 31) hC.x hC.b dX7_init_59 (by decide) ?_
  refine lv_iload_n hC.x hC.b dX7_init_31 rfl (lv_at hl 0 rfl) ?_
  refine lv_iconst (v := 5) hC.x hC.b dX7_init_32 (by decide) ?_
  refine bi_ge (tgt := 62) (a := 2) (b := 5) hC.x hC.b (by decide) (by decide) dX7_init_33 (by decide) (fun q => absurd q (by decide)) (fun _ => ?_)
  refine lv_aload_n hC.x hC.b dX7_init_36 rfl (lv_at hl 1 rfl) ?_
  refine kget (v := .ref (z + 0)) hC hK hO rfl uin_X7 0 (by decide) TF_X7_11 rfl dX7_init_37 ?_
  refine lv_iload_n hC.x hC.b dX7_init_40 rfl (lv_at hl 0 rfl) ?_
  refine kqald (t := 4) (a := (z + 0)) (n := 5) (i := (2 : Int32)) (v := .ref (z + 0 + 1 + 2)) hC hK rfl rfl hN_1 (vin (t := 2) (by decide) (by decide) (by decide)) (by rw [show (2 : Int32).toNatClampNeg = 2 from by decide]; rfl) dX7_init_41 ?_
  refine lv_iload_n hC.x hC.b dX7_init_42 rfl (lv_at hl 0 rfl) ?_
  refine lv_iconst (v := 3) hC.x hC.b dX7_init_43 (by decide) ?_
  refine bi_ne (tgt := 51) (a := 2) (b := 3) hC.x hC.b (by decide) (by decide) dX7_init_44 (by decide) (fun _ => ?_) (fun q => absurd q (by decide))
  refine lv_ldc hC.x hC.b hC.ow (hC.ts _ TK_X7_19) dX7_init_51 ?_
  refine kstat (As := [.ref (z + 0 + 1 + 2), .int (2000000000)]) (rest := []) (h := z + 13) hC hl.1 hS hz hK hAO (i_fill l G (z + 0 + 1 + 2) (z + 13) 4800 (2000000000) (fun _ => 0) (by decide)) (kcb hC.ts TC_J7_fill_53178 TN_J7 TM_X7_20 hd_J7_fill_53178 ⟨(Nat.le_of_ble_eq_true rfl), (Nat.le_of_ble_eq_true rfl)⟩) TT_J7_fill_53178 hr_4 rfl rfl (Nat.le_of_ble_eq_true rfl) dX7_init_53 ⟨(Nat.le_of_ble_eq_true rfl), (Nat.le_of_ble_eq_true rfl)⟩ (fun q hq => Or.inr (by rcases hq with rfl; omega)) (fun H locs hQ oN hS => ?_)
  replace hO := KO.kept hO (oN _ (by omega) (nfr1 (by omega)))
  replace hN_1 := va_at.kept hN_1 (oN _ (by omega) (nfr1 (by omega)))
  replace hr_5 := va_at.kept hr_5 (oN _ (by omega) (nfr1 (by omega)))
  replace hr_6 := va_at.kept hr_6 (oN _ (by omega) (nfr1 (by omega)))
  replace hN_7 := va_at.kept hN_7 (oN _ (by omega) (nfr1 (by omega)))
  replace hr_8 := va_at.kept hr_8 (oN _ (by omega) (nfr1 (by omega)))
  replace hr_9 := va_at.kept hr_9 (oN _ (by omega) (nfr1 (by omega)))
  replace hr_10 := va_at.kept hr_10 (oN _ (by omega) (nfr1 (by omega)))
  replace hr_11 := va_at.kept hr_11 (oN _ (by omega) (nfr1 (by omega)))
  replace hr_12 := va_at.kept hr_12 (oN _ (by omega) (nfr1 (by omega)))
  replace hr_13 := va_at.kept hr_13 (oN _ (by omega) (nfr1 (by omega)))
  replace hr_2 := va_at.kept hr_2 (oN _ (by omega) (nfr1 (by omega)))
  replace hr_3 := va_at.kept hr_3 (oN _ (by omega) (nfr1 (by omega)))
  replace hr_4 : AT G (z + 0 + 1 + 2) (.inl (G.2.2 0, 4800, .inl (fun _ => (2000000000)))) H := hQ.2
  replace hz : H.size = z + 13 := hQ.1
  clear oN hQ
  refine lv_iinc (v := (3 : Int32)) (lv' := [(1, .int (3)), (0, .ref a)]) hC.x hC.b dX7_init_56 hl (k := 0) rfl (by decide) (by decide) rfl (fun ls hl => ?_)
  refine lv_goto (tgt := 31) hC.x hC.b dX7_init_59 (by decide) ?_
  refine lv_iload_n hC.x hC.b dX7_init_31 rfl (lv_at hl 0 rfl) ?_
  refine lv_iconst (v := 5) hC.x hC.b dX7_init_32 (by decide) ?_
  refine bi_ge (tgt := 62) (a := 3) (b := 5) hC.x hC.b (by decide) (by decide) dX7_init_33 (by decide) (fun q => absurd q (by decide)) (fun _ => ?_)
  refine lv_aload_n hC.x hC.b dX7_init_36 rfl (lv_at hl 1 rfl) ?_
  refine kget (v := .ref (z + 0)) hC hK hO rfl uin_X7 0 (by decide) TF_X7_11 rfl dX7_init_37 ?_
  refine lv_iload_n hC.x hC.b dX7_init_40 rfl (lv_at hl 0 rfl) ?_
  refine kqald (t := 4) (a := (z + 0)) (n := 5) (i := (3 : Int32)) (v := .ref (z + 0 + 1 + 3)) hC hK rfl rfl hN_1 (vin (t := 3) (by decide) (by decide) (by decide)) (by rw [show (3 : Int32).toNatClampNeg = 3 from by decide]; rfl) dX7_init_41 ?_
  refine lv_iload_n hC.x hC.b dX7_init_42 rfl (lv_at hl 0 rfl) ?_
  refine lv_iconst (v := 3) hC.x hC.b dX7_init_43 (by decide) ?_
  refine bi_ne (tgt := 51) (a := 3) (b := 3) hC.x hC.b (by decide) (by decide) dX7_init_44 (by decide) (fun q => absurd q (by decide)) (fun _ => ?_)
  refine lv_iconst (v := 0) hC.x hC.b dX7_init_47 (by decide) ?_
  refine lv_goto (tgt := 53) hC.x hC.b dX7_init_48 (by decide) ?_
  refine kstat (As := [.ref (z + 0 + 1 + 3), .int (0)]) (rest := []) (h := z + 13) hC hl.1 hS hz hK hAO (i_fill l G (z + 0 + 1 + 3) (z + 13) 4800 (0) (fun _ => 0) (by decide)) (kcb hC.ts TC_J7_fill_53178 TN_J7 TM_X7_20 hd_J7_fill_53178 ⟨(Nat.le_of_ble_eq_true rfl), (Nat.le_of_ble_eq_true rfl)⟩) TT_J7_fill_53178 hr_5 rfl rfl (Nat.le_of_ble_eq_true rfl) dX7_init_53 ⟨(Nat.le_of_ble_eq_true rfl), (Nat.le_of_ble_eq_true rfl)⟩ (fun q hq => Or.inr (by rcases hq with rfl; omega)) (fun H locs hQ oN hS => ?_)
  replace hO := KO.kept hO (oN _ (by omega) (nfr1 (by omega)))
  replace hN_1 := va_at.kept hN_1 (oN _ (by omega) (nfr1 (by omega)))
  replace hr_6 := va_at.kept hr_6 (oN _ (by omega) (nfr1 (by omega)))
  replace hN_7 := va_at.kept hN_7 (oN _ (by omega) (nfr1 (by omega)))
  replace hr_8 := va_at.kept hr_8 (oN _ (by omega) (nfr1 (by omega)))
  replace hr_9 := va_at.kept hr_9 (oN _ (by omega) (nfr1 (by omega)))
  replace hr_10 := va_at.kept hr_10 (oN _ (by omega) (nfr1 (by omega)))
  replace hr_11 := va_at.kept hr_11 (oN _ (by omega) (nfr1 (by omega)))
  replace hr_12 := va_at.kept hr_12 (oN _ (by omega) (nfr1 (by omega)))
  replace hr_13 := va_at.kept hr_13 (oN _ (by omega) (nfr1 (by omega)))
  replace hr_2 := va_at.kept hr_2 (oN _ (by omega) (nfr1 (by omega)))
  replace hr_3 := va_at.kept hr_3 (oN _ (by omega) (nfr1 (by omega)))
  replace hr_4 := va_at.kept hr_4 (oN _ (by omega) (nfr1 (by omega)))
  replace hr_5 : AT G (z + 0 + 1 + 3) (.inl (G.2.2 0, 4800, .inl (fun _ => (0)))) H := hQ.2
  replace hz : H.size = z + 13 := hQ.1
  clear oN hQ
  refine lv_iinc (v := (4 : Int32)) (lv' := [(1, .int (4)), (0, .ref a)]) hC.x hC.b dX7_init_56 hl (k := 0) rfl (by decide) (by decide) rfl (fun ls hl => ?_)
  refine lv_goto (tgt := 31) hC.x hC.b dX7_init_59 (by decide) ?_
  refine lv_iload_n hC.x hC.b dX7_init_31 rfl (lv_at hl 0 rfl) ?_
  refine lv_iconst (v := 5) hC.x hC.b dX7_init_32 (by decide) ?_
  refine bi_ge (tgt := 62) (a := 4) (b := 5) hC.x hC.b (by decide) (by decide) dX7_init_33 (by decide) (fun q => absurd q (by decide)) (fun _ => ?_)
  refine lv_aload_n hC.x hC.b dX7_init_36 rfl (lv_at hl 1 rfl) ?_
  refine kget (v := .ref (z + 0)) hC hK hO rfl uin_X7 0 (by decide) TF_X7_11 rfl dX7_init_37 ?_
  refine lv_iload_n hC.x hC.b dX7_init_40 rfl (lv_at hl 0 rfl) ?_
  refine kqald (t := 4) (a := (z + 0)) (n := 5) (i := (4 : Int32)) (v := .ref (z + 0 + 1 + 4)) hC hK rfl rfl hN_1 (vin (t := 4) (by decide) (by decide) (by decide)) (by rw [show (4 : Int32).toNatClampNeg = 4 from by decide]; rfl) dX7_init_41 ?_
  refine lv_iload_n hC.x hC.b dX7_init_42 rfl (lv_at hl 0 rfl) ?_
  refine lv_iconst (v := 3) hC.x hC.b dX7_init_43 (by decide) ?_
  refine bi_ne (tgt := 51) (a := 4) (b := 3) hC.x hC.b (by decide) (by decide) dX7_init_44 (by decide) (fun _ => ?_) (fun q => absurd q (by decide))
  refine lv_ldc hC.x hC.b hC.ow (hC.ts _ TK_X7_19) dX7_init_51 ?_
  refine kstat (As := [.ref (z + 0 + 1 + 4), .int (2000000000)]) (rest := []) (h := z + 13) hC hl.1 hS hz hK hAO (i_fill l G (z + 0 + 1 + 4) (z + 13) 4800 (2000000000) (fun _ => 0) (by decide)) (kcb hC.ts TC_J7_fill_53178 TN_J7 TM_X7_20 hd_J7_fill_53178 ⟨(Nat.le_of_ble_eq_true rfl), (Nat.le_of_ble_eq_true rfl)⟩) TT_J7_fill_53178 hr_6 rfl rfl (Nat.le_of_ble_eq_true rfl) dX7_init_53 ⟨(Nat.le_of_ble_eq_true rfl), (Nat.le_of_ble_eq_true rfl)⟩ (fun q hq => Or.inr (by rcases hq with rfl; omega)) (fun H locs hQ oN hS => ?_)
  replace hO := KO.kept hO (oN _ (by omega) (nfr1 (by omega)))
  replace hN_1 := va_at.kept hN_1 (oN _ (by omega) (nfr1 (by omega)))
  replace hN_7 := va_at.kept hN_7 (oN _ (by omega) (nfr1 (by omega)))
  replace hr_8 := va_at.kept hr_8 (oN _ (by omega) (nfr1 (by omega)))
  replace hr_9 := va_at.kept hr_9 (oN _ (by omega) (nfr1 (by omega)))
  replace hr_10 := va_at.kept hr_10 (oN _ (by omega) (nfr1 (by omega)))
  replace hr_11 := va_at.kept hr_11 (oN _ (by omega) (nfr1 (by omega)))
  replace hr_12 := va_at.kept hr_12 (oN _ (by omega) (nfr1 (by omega)))
  replace hr_13 := va_at.kept hr_13 (oN _ (by omega) (nfr1 (by omega)))
  replace hr_2 := va_at.kept hr_2 (oN _ (by omega) (nfr1 (by omega)))
  replace hr_3 := va_at.kept hr_3 (oN _ (by omega) (nfr1 (by omega)))
  replace hr_4 := va_at.kept hr_4 (oN _ (by omega) (nfr1 (by omega)))
  replace hr_5 := va_at.kept hr_5 (oN _ (by omega) (nfr1 (by omega)))
  replace hr_6 : AT G (z + 0 + 1 + 4) (.inl (G.2.2 0, 4800, .inl (fun _ => (2000000000)))) H := hQ.2
  replace hz : H.size = z + 13 := hQ.1
  clear oN hQ
  refine lv_iinc (v := (5 : Int32)) (lv' := [(1, .int (5)), (0, .ref a)]) hC.x hC.b dX7_init_56 hl (k := 0) rfl (by decide) (by decide) rfl (fun ls hl => ?_)
  refine lv_goto (tgt := 31) hC.x hC.b dX7_init_59 (by decide) ?_
  refine lv_iload_n hC.x hC.b dX7_init_31 rfl (lv_at hl 0 rfl) ?_
  refine lv_iconst (v := 5) hC.x hC.b dX7_init_32 (by decide) ?_
  refine bi_ge (tgt := 62) (a := 5) (b := 5) hC.x hC.b (by decide) (by decide) dX7_init_33 (by decide) (fun _ => ?_) (fun q => absurd q (by decide))
  refine lv_iconst (v := 0) hC.x hC.b dX7_init_62 (by decide) ?_
  refine lv_istore_n (lv' := [(1, .int (0)), (0, .ref a)]) hC.x hC.b dX7_init_63 rfl hl (by decide) rfl (fun ls hl => ?_)
  refine lv_iload_n hC.x hC.b dX7_init_64 rfl (lv_at hl 0 rfl) ?_
  refine lv_bipush (v := 6) hC.x hC.b dX7_init_65 (by decide) ?_
  refine bi_ge (tgt := 86) (a := 0) (b := 6) hC.x hC.b (by decide) (by decide) dX7_init_67 (by decide) (fun q => absurd q (by decide)) (fun _ => ?_)
  refine lv_aload_n hC.x hC.b dX7_init_70 rfl (lv_at hl 1 rfl) ?_
  refine kget (v := .ref (z + 6)) hC hK hO rfl uin_X7 1 (by decide) TF_X7_16 rfl dX7_init_71 ?_
  refine lv_iload_n hC.x hC.b dX7_init_74 rfl (lv_at hl 0 rfl) ?_
  refine kqald (t := 4) (a := (z + 6)) (n := 6) (i := (0 : Int32)) (v := .ref (z + 6 + 1 + 0)) hC hK rfl rfl hN_7 (vin (t := 0) (by decide) (by decide) (by decide)) (by rw [show (0 : Int32).toNatClampNeg = 0 from by decide]; rfl) dX7_init_75 ?_
  refine lv_iconst (v := (-1)) hC.x hC.b dX7_init_76 (by decide) ?_
  refine kstat (As := [.ref (z + 6 + 1 + 0), .int (-1)]) (rest := []) (h := z + 13) hC hl.1 hS hz hK hAO (i_fill l G (z + 6 + 1 + 0) (z + 13) 200 (-1) (fun _ => 0) (by decide)) (kcb hC.ts TC_J7_fill_53178 TN_J7 TM_X7_20 hd_J7_fill_53178 ⟨(Nat.le_of_ble_eq_true rfl), (Nat.le_of_ble_eq_true rfl)⟩) TT_J7_fill_53178 hr_8 rfl rfl (Nat.le_of_ble_eq_true rfl) dX7_init_77 ⟨(Nat.le_of_ble_eq_true rfl), (Nat.le_of_ble_eq_true rfl)⟩ (fun q hq => Or.inr (by rcases hq with rfl; omega)) (fun H locs hQ oN hS => ?_)
  replace hO := KO.kept hO (oN _ (by omega) (nfr1 (by omega)))
  replace hN_1 := va_at.kept hN_1 (oN _ (by omega) (nfr1 (by omega)))
  replace hN_7 := va_at.kept hN_7 (oN _ (by omega) (nfr1 (by omega)))
  replace hr_9 := va_at.kept hr_9 (oN _ (by omega) (nfr1 (by omega)))
  replace hr_10 := va_at.kept hr_10 (oN _ (by omega) (nfr1 (by omega)))
  replace hr_11 := va_at.kept hr_11 (oN _ (by omega) (nfr1 (by omega)))
  replace hr_12 := va_at.kept hr_12 (oN _ (by omega) (nfr1 (by omega)))
  replace hr_13 := va_at.kept hr_13 (oN _ (by omega) (nfr1 (by omega)))
  replace hr_2 := va_at.kept hr_2 (oN _ (by omega) (nfr1 (by omega)))
  replace hr_3 := va_at.kept hr_3 (oN _ (by omega) (nfr1 (by omega)))
  replace hr_4 := va_at.kept hr_4 (oN _ (by omega) (nfr1 (by omega)))
  replace hr_5 := va_at.kept hr_5 (oN _ (by omega) (nfr1 (by omega)))
  replace hr_6 := va_at.kept hr_6 (oN _ (by omega) (nfr1 (by omega)))
  replace hr_8 : AT G (z + 6 + 1 + 0) (.inl (G.2.2 0, 200, .inl (fun _ => (-1)))) H := hQ.2
  replace hz : H.size = z + 13 := hQ.1
  clear oN hQ
  refine lv_iinc (v := (1 : Int32)) (lv' := [(1, .int (1)), (0, .ref a)]) hC.x hC.b dX7_init_80 hl (k := 0) rfl (by decide) (by decide) rfl (fun ls hl => ?_)
  refine lv_goto (tgt := 64) hC.x hC.b dX7_init_83 (by decide) ?_
  refine lv_iload_n hC.x hC.b dX7_init_64 rfl (lv_at hl 0 rfl) ?_
  refine lv_bipush (v := 6) hC.x hC.b dX7_init_65 (by decide) ?_
  refine bi_ge (tgt := 86) (a := 1) (b := 6) hC.x hC.b (by decide) (by decide) dX7_init_67 (by decide) (fun q => absurd q (by decide)) (fun _ => ?_)
  refine lv_aload_n hC.x hC.b dX7_init_70 rfl (lv_at hl 1 rfl) ?_
  refine kget (v := .ref (z + 6)) hC hK hO rfl uin_X7 1 (by decide) TF_X7_16 rfl dX7_init_71 ?_
  refine lv_iload_n hC.x hC.b dX7_init_74 rfl (lv_at hl 0 rfl) ?_
  refine kqald (t := 4) (a := (z + 6)) (n := 6) (i := (1 : Int32)) (v := .ref (z + 6 + 1 + 1)) hC hK rfl rfl hN_7 (vin (t := 1) (by decide) (by decide) (by decide)) (by rw [show (1 : Int32).toNatClampNeg = 1 from by decide]; rfl) dX7_init_75 ?_
  refine lv_iconst (v := (-1)) hC.x hC.b dX7_init_76 (by decide) ?_
  refine kstat (As := [.ref (z + 6 + 1 + 1), .int (-1)]) (rest := []) (h := z + 13) hC hl.1 hS hz hK hAO (i_fill l G (z + 6 + 1 + 1) (z + 13) 200 (-1) (fun _ => 0) (by decide)) (kcb hC.ts TC_J7_fill_53178 TN_J7 TM_X7_20 hd_J7_fill_53178 ⟨(Nat.le_of_ble_eq_true rfl), (Nat.le_of_ble_eq_true rfl)⟩) TT_J7_fill_53178 hr_9 rfl rfl (Nat.le_of_ble_eq_true rfl) dX7_init_77 ⟨(Nat.le_of_ble_eq_true rfl), (Nat.le_of_ble_eq_true rfl)⟩ (fun q hq => Or.inr (by rcases hq with rfl; omega)) (fun H locs hQ oN hS => ?_)
  replace hO := KO.kept hO (oN _ (by omega) (nfr1 (by omega)))
  replace hN_1 := va_at.kept hN_1 (oN _ (by omega) (nfr1 (by omega)))
  replace hN_7 := va_at.kept hN_7 (oN _ (by omega) (nfr1 (by omega)))
  replace hr_10 := va_at.kept hr_10 (oN _ (by omega) (nfr1 (by omega)))
  replace hr_11 := va_at.kept hr_11 (oN _ (by omega) (nfr1 (by omega)))
  replace hr_12 := va_at.kept hr_12 (oN _ (by omega) (nfr1 (by omega)))
  replace hr_13 := va_at.kept hr_13 (oN _ (by omega) (nfr1 (by omega)))
  replace hr_2 := va_at.kept hr_2 (oN _ (by omega) (nfr1 (by omega)))
  replace hr_3 := va_at.kept hr_3 (oN _ (by omega) (nfr1 (by omega)))
  replace hr_4 := va_at.kept hr_4 (oN _ (by omega) (nfr1 (by omega)))
  replace hr_5 := va_at.kept hr_5 (oN _ (by omega) (nfr1 (by omega)))
  replace hr_6 := va_at.kept hr_6 (oN _ (by omega) (nfr1 (by omega)))
  replace hr_8 := va_at.kept hr_8 (oN _ (by omega) (nfr1 (by omega)))
  replace hr_9 : AT G (z + 6 + 1 + 1) (.inl (G.2.2 0, 200, .inl (fun _ => (-1)))) H := hQ.2
  replace hz : H.size = z + 13 := hQ.1
  clear oN hQ
  refine lv_iinc (v := (2 : Int32)) (lv' := [(1, .int (2)), (0, .ref a)]) hC.x hC.b dX7_init_80 hl (k := 0) rfl (by decide) (by decide) rfl (fun ls hl => ?_)
  refine lv_goto (tgt := 64) hC.x hC.b dX7_init_83 (by decide) ?_
  refine lv_iload_n hC.x hC.b dX7_init_64 rfl (lv_at hl 0 rfl) ?_
  refine lv_bipush (v := 6) hC.x hC.b dX7_init_65 (by decide) ?_
  refine bi_ge (tgt := 86) (a := 2) (b := 6) hC.x hC.b (by decide) (by decide) dX7_init_67 (by decide) (fun q => absurd q (by decide)) (fun _ => ?_)
  refine lv_aload_n hC.x hC.b dX7_init_70 rfl (lv_at hl 1 rfl) ?_
  refine kget (v := .ref (z + 6)) hC hK hO rfl uin_X7 1 (by decide) TF_X7_16 rfl dX7_init_71 ?_
  refine lv_iload_n hC.x hC.b dX7_init_74 rfl (lv_at hl 0 rfl) ?_
  refine kqald (t := 4) (a := (z + 6)) (n := 6) (i := (2 : Int32)) (v := .ref (z + 6 + 1 + 2)) hC hK rfl rfl hN_7 (vin (t := 2) (by decide) (by decide) (by decide)) (by rw [show (2 : Int32).toNatClampNeg = 2 from by decide]; rfl) dX7_init_75 ?_
  refine lv_iconst (v := (-1)) hC.x hC.b dX7_init_76 (by decide) ?_
  refine kstat (As := [.ref (z + 6 + 1 + 2), .int (-1)]) (rest := []) (h := z + 13) hC hl.1 hS hz hK hAO (i_fill l G (z + 6 + 1 + 2) (z + 13) 200 (-1) (fun _ => 0) (by decide)) (kcb hC.ts TC_J7_fill_53178 TN_J7 TM_X7_20 hd_J7_fill_53178 ⟨(Nat.le_of_ble_eq_true rfl), (Nat.le_of_ble_eq_true rfl)⟩) TT_J7_fill_53178 hr_10 rfl rfl (Nat.le_of_ble_eq_true rfl) dX7_init_77 ⟨(Nat.le_of_ble_eq_true rfl), (Nat.le_of_ble_eq_true rfl)⟩ (fun q hq => Or.inr (by rcases hq with rfl; omega)) (fun H locs hQ oN hS => ?_)
  replace hO := KO.kept hO (oN _ (by omega) (nfr1 (by omega)))
  replace hN_1 := va_at.kept hN_1 (oN _ (by omega) (nfr1 (by omega)))
  replace hN_7 := va_at.kept hN_7 (oN _ (by omega) (nfr1 (by omega)))
  replace hr_11 := va_at.kept hr_11 (oN _ (by omega) (nfr1 (by omega)))
  replace hr_12 := va_at.kept hr_12 (oN _ (by omega) (nfr1 (by omega)))
  replace hr_13 := va_at.kept hr_13 (oN _ (by omega) (nfr1 (by omega)))
  replace hr_2 := va_at.kept hr_2 (oN _ (by omega) (nfr1 (by omega)))
  replace hr_3 := va_at.kept hr_3 (oN _ (by omega) (nfr1 (by omega)))
  replace hr_4 := va_at.kept hr_4 (oN _ (by omega) (nfr1 (by omega)))
  replace hr_5 := va_at.kept hr_5 (oN _ (by omega) (nfr1 (by omega)))
  replace hr_6 := va_at.kept hr_6 (oN _ (by omega) (nfr1 (by omega)))
  replace hr_8 := va_at.kept hr_8 (oN _ (by omega) (nfr1 (by omega)))
  replace hr_9 := va_at.kept hr_9 (oN _ (by omega) (nfr1 (by omega)))
  replace hr_10 : AT G (z + 6 + 1 + 2) (.inl (G.2.2 0, 200, .inl (fun _ => (-1)))) H := hQ.2
  replace hz : H.size = z + 13 := hQ.1
  clear oN hQ
  refine lv_iinc (v := (3 : Int32)) (lv' := [(1, .int (3)), (0, .ref a)]) hC.x hC.b dX7_init_80 hl (k := 0) rfl (by decide) (by decide) rfl (fun ls hl => ?_)
  refine lv_goto (tgt := 64) hC.x hC.b dX7_init_83 (by decide) ?_
  refine lv_iload_n hC.x hC.b dX7_init_64 rfl (lv_at hl 0 rfl) ?_
  refine lv_bipush (v := 6) hC.x hC.b dX7_init_65 (by decide) ?_
  refine bi_ge (tgt := 86) (a := 3) (b := 6) hC.x hC.b (by decide) (by decide) dX7_init_67 (by decide) (fun q => absurd q (by decide)) (fun _ => ?_)
  refine lv_aload_n hC.x hC.b dX7_init_70 rfl (lv_at hl 1 rfl) ?_
  refine kget (v := .ref (z + 6)) hC hK hO rfl uin_X7 1 (by decide) TF_X7_16 rfl dX7_init_71 ?_
  refine lv_iload_n hC.x hC.b dX7_init_74 rfl (lv_at hl 0 rfl) ?_
  refine kqald (t := 4) (a := (z + 6)) (n := 6) (i := (3 : Int32)) (v := .ref (z + 6 + 1 + 3)) hC hK rfl rfl hN_7 (vin (t := 3) (by decide) (by decide) (by decide)) (by rw [show (3 : Int32).toNatClampNeg = 3 from by decide]; rfl) dX7_init_75 ?_
  refine lv_iconst (v := (-1)) hC.x hC.b dX7_init_76 (by decide) ?_
  refine kstat (As := [.ref (z + 6 + 1 + 3), .int (-1)]) (rest := []) (h := z + 13) hC hl.1 hS hz hK hAO (i_fill l G (z + 6 + 1 + 3) (z + 13) 200 (-1) (fun _ => 0) (by decide)) (kcb hC.ts TC_J7_fill_53178 TN_J7 TM_X7_20 hd_J7_fill_53178 ⟨(Nat.le_of_ble_eq_true rfl), (Nat.le_of_ble_eq_true rfl)⟩) TT_J7_fill_53178 hr_11 rfl rfl (Nat.le_of_ble_eq_true rfl) dX7_init_77 ⟨(Nat.le_of_ble_eq_true rfl), (Nat.le_of_ble_eq_true rfl)⟩ (fun q hq => Or.inr (by rcases hq with rfl; omega)) (fun H locs hQ oN hS => ?_)
  replace hO := KO.kept hO (oN _ (by omega) (nfr1 (by omega)))
  replace hN_1 := va_at.kept hN_1 (oN _ (by omega) (nfr1 (by omega)))
  replace hN_7 := va_at.kept hN_7 (oN _ (by omega) (nfr1 (by omega)))
  replace hr_12 := va_at.kept hr_12 (oN _ (by omega) (nfr1 (by omega)))
  replace hr_13 := va_at.kept hr_13 (oN _ (by omega) (nfr1 (by omega)))
  replace hr_2 := va_at.kept hr_2 (oN _ (by omega) (nfr1 (by omega)))
  replace hr_3 := va_at.kept hr_3 (oN _ (by omega) (nfr1 (by omega)))
  replace hr_4 := va_at.kept hr_4 (oN _ (by omega) (nfr1 (by omega)))
  replace hr_5 := va_at.kept hr_5 (oN _ (by omega) (nfr1 (by omega)))
  replace hr_6 := va_at.kept hr_6 (oN _ (by omega) (nfr1 (by omega)))
  replace hr_8 := va_at.kept hr_8 (oN _ (by omega) (nfr1 (by omega)))
  replace hr_9 := va_at.kept hr_9 (oN _ (by omega) (nfr1 (by omega)))
  replace hr_10 := va_at.kept hr_10 (oN _ (by omega) (nfr1 (by omega)))
  replace hr_11 : AT G (z + 6 + 1 + 3) (.inl (G.2.2 0, 200, .inl (fun _ => (-1)))) H := hQ.2
  replace hz : H.size = z + 13 := hQ.1
  clear oN hQ
  refine lv_iinc (v := (4 : Int32)) (lv' := [(1, .int (4)), (0, .ref a)]) hC.x hC.b dX7_init_80 hl (k := 0) rfl (by decide) (by decide) rfl (fun ls hl => ?_)
  refine lv_goto (tgt := 64) hC.x hC.b dX7_init_83 (by decide) ?_
  refine lv_iload_n hC.x hC.b dX7_init_64 rfl (lv_at hl 0 rfl) ?_
  refine lv_bipush (v := 6) hC.x hC.b dX7_init_65 (by decide) ?_
  refine bi_ge (tgt := 86) (a := 4) (b := 6) hC.x hC.b (by decide) (by decide) dX7_init_67 (by decide) (fun q => absurd q (by decide)) (fun _ => ?_)
  refine lv_aload_n hC.x hC.b dX7_init_70 rfl (lv_at hl 1 rfl) ?_
  refine kget (v := .ref (z + 6)) hC hK hO rfl uin_X7 1 (by decide) TF_X7_16 rfl dX7_init_71 ?_
  refine lv_iload_n hC.x hC.b dX7_init_74 rfl (lv_at hl 0 rfl) ?_
  refine kqald (t := 4) (a := (z + 6)) (n := 6) (i := (4 : Int32)) (v := .ref (z + 6 + 1 + 4)) hC hK rfl rfl hN_7 (vin (t := 4) (by decide) (by decide) (by decide)) (by rw [show (4 : Int32).toNatClampNeg = 4 from by decide]; rfl) dX7_init_75 ?_
  refine lv_iconst (v := (-1)) hC.x hC.b dX7_init_76 (by decide) ?_
  refine kstat (As := [.ref (z + 6 + 1 + 4), .int (-1)]) (rest := []) (h := z + 13) hC hl.1 hS hz hK hAO (i_fill l G (z + 6 + 1 + 4) (z + 13) 200 (-1) (fun _ => 0) (by decide)) (kcb hC.ts TC_J7_fill_53178 TN_J7 TM_X7_20 hd_J7_fill_53178 ⟨(Nat.le_of_ble_eq_true rfl), (Nat.le_of_ble_eq_true rfl)⟩) TT_J7_fill_53178 hr_12 rfl rfl (Nat.le_of_ble_eq_true rfl) dX7_init_77 ⟨(Nat.le_of_ble_eq_true rfl), (Nat.le_of_ble_eq_true rfl)⟩ (fun q hq => Or.inr (by rcases hq with rfl; omega)) (fun H locs hQ oN hS => ?_)
  replace hO := KO.kept hO (oN _ (by omega) (nfr1 (by omega)))
  replace hN_1 := va_at.kept hN_1 (oN _ (by omega) (nfr1 (by omega)))
  replace hN_7 := va_at.kept hN_7 (oN _ (by omega) (nfr1 (by omega)))
  replace hr_13 := va_at.kept hr_13 (oN _ (by omega) (nfr1 (by omega)))
  replace hr_2 := va_at.kept hr_2 (oN _ (by omega) (nfr1 (by omega)))
  replace hr_3 := va_at.kept hr_3 (oN _ (by omega) (nfr1 (by omega)))
  replace hr_4 := va_at.kept hr_4 (oN _ (by omega) (nfr1 (by omega)))
  replace hr_5 := va_at.kept hr_5 (oN _ (by omega) (nfr1 (by omega)))
  replace hr_6 := va_at.kept hr_6 (oN _ (by omega) (nfr1 (by omega)))
  replace hr_8 := va_at.kept hr_8 (oN _ (by omega) (nfr1 (by omega)))
  replace hr_9 := va_at.kept hr_9 (oN _ (by omega) (nfr1 (by omega)))
  replace hr_10 := va_at.kept hr_10 (oN _ (by omega) (nfr1 (by omega)))
  replace hr_11 := va_at.kept hr_11 (oN _ (by omega) (nfr1 (by omega)))
  replace hr_12 : AT G (z + 6 + 1 + 4) (.inl (G.2.2 0, 200, .inl (fun _ => (-1)))) H := hQ.2
  replace hz : H.size = z + 13 := hQ.1
  clear oN hQ
  refine lv_iinc (v := (5 : Int32)) (lv' := [(1, .int (5)), (0, .ref a)]) hC.x hC.b dX7_init_80 hl (k := 0) rfl (by decide) (by decide) rfl (fun ls hl => ?_)
  refine lv_goto (tgt := 64) hC.x hC.b dX7_init_83 (by decide) ?_
  refine lv_iload_n hC.x hC.b dX7_init_64 rfl (lv_at hl 0 rfl) ?_
  refine lv_bipush (v := 6) hC.x hC.b dX7_init_65 (by decide) ?_
  refine bi_ge (tgt := 86) (a := 5) (b := 6) hC.x hC.b (by decide) (by decide) dX7_init_67 (by decide) (fun q => absurd q (by decide)) (fun _ => ?_)
  refine lv_aload_n hC.x hC.b dX7_init_70 rfl (lv_at hl 1 rfl) ?_
  refine kget (v := .ref (z + 6)) hC hK hO rfl uin_X7 1 (by decide) TF_X7_16 rfl dX7_init_71 ?_
  refine lv_iload_n hC.x hC.b dX7_init_74 rfl (lv_at hl 0 rfl) ?_
  refine kqald (t := 4) (a := (z + 6)) (n := 6) (i := (5 : Int32)) (v := .ref (z + 6 + 1 + 5)) hC hK rfl rfl hN_7 (vin (t := 5) (by decide) (by decide) (by decide)) (by rw [show (5 : Int32).toNatClampNeg = 5 from by decide]; rfl) dX7_init_75 ?_
  refine lv_iconst (v := (-1)) hC.x hC.b dX7_init_76 (by decide) ?_
  refine kstat (As := [.ref (z + 6 + 1 + 5), .int (-1)]) (rest := []) (h := z + 13) hC hl.1 hS hz hK hAO (i_fill l G (z + 6 + 1 + 5) (z + 13) 200 (-1) (fun _ => 0) (by decide)) (kcb hC.ts TC_J7_fill_53178 TN_J7 TM_X7_20 hd_J7_fill_53178 ⟨(Nat.le_of_ble_eq_true rfl), (Nat.le_of_ble_eq_true rfl)⟩) TT_J7_fill_53178 hr_13 rfl rfl (Nat.le_of_ble_eq_true rfl) dX7_init_77 ⟨(Nat.le_of_ble_eq_true rfl), (Nat.le_of_ble_eq_true rfl)⟩ (fun q hq => Or.inr (by rcases hq with rfl; omega)) (fun H locs hQ oN hS => ?_)
  replace hO := KO.kept hO (oN _ (by omega) (nfr1 (by omega)))
  replace hN_1 := va_at.kept hN_1 (oN _ (by omega) (nfr1 (by omega)))
  replace hN_7 := va_at.kept hN_7 (oN _ (by omega) (nfr1 (by omega)))
  replace hr_2 := va_at.kept hr_2 (oN _ (by omega) (nfr1 (by omega)))
  replace hr_3 := va_at.kept hr_3 (oN _ (by omega) (nfr1 (by omega)))
  replace hr_4 := va_at.kept hr_4 (oN _ (by omega) (nfr1 (by omega)))
  replace hr_5 := va_at.kept hr_5 (oN _ (by omega) (nfr1 (by omega)))
  replace hr_6 := va_at.kept hr_6 (oN _ (by omega) (nfr1 (by omega)))
  replace hr_8 := va_at.kept hr_8 (oN _ (by omega) (nfr1 (by omega)))
  replace hr_9 := va_at.kept hr_9 (oN _ (by omega) (nfr1 (by omega)))
  replace hr_10 := va_at.kept hr_10 (oN _ (by omega) (nfr1 (by omega)))
  replace hr_11 := va_at.kept hr_11 (oN _ (by omega) (nfr1 (by omega)))
  replace hr_12 := va_at.kept hr_12 (oN _ (by omega) (nfr1 (by omega)))
  replace hr_13 : AT G (z + 6 + 1 + 5) (.inl (G.2.2 0, 200, .inl (fun _ => (-1)))) H := hQ.2
  replace hz : H.size = z + 13 := hQ.1
  clear oN hQ
  refine lv_iinc (v := (6 : Int32)) (lv' := [(1, .int (6)), (0, .ref a)]) hC.x hC.b dX7_init_80 hl (k := 0) rfl (by decide) (by decide) rfl (fun ls hl => ?_)
  refine lv_goto (tgt := 64) hC.x hC.b dX7_init_83 (by decide) ?_
  refine lv_iload_n hC.x hC.b dX7_init_64 rfl (lv_at hl 0 rfl) ?_
  refine lv_bipush (v := 6) hC.x hC.b dX7_init_65 (by decide) ?_
  refine bi_ge (tgt := 86) (a := 6) (b := 6) hC.x hC.b (by decide) (by decide) dX7_init_67 (by decide) (fun _ => ?_) (fun q => absurd q (by decide))
  exact kret hC hS ⟨by omega, ⟨_, rfl, hO.to (fun j hj => by rcases (show j = 0 ∨ j = 1 by omega) with rfl | rfl <;> rfl)⟩, hN_1, hN_7, hr_2, hr_3, hr_4, hr_5, hr_6, hr_8, hr_9, hr_10, hr_11, hr_12, hr_13⟩ (Nat.le_of_ble_eq_true rfl) (Nat.le_of_ble_eq_true rfl) dX7_init_86
