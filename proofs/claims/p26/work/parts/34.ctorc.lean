abbrev DX5 (G : Gx) (a z : Nat) (H : Heap) : Prop := AT G a (.inr (5, [.ref (z + 0), .ref (z + 1), .ref (z + 2)])) H ∧ AT G (z + 0) (.inl (G.2.2 0, 24, .inl (fun _ => -1))) H ∧ AT G (z + 1) (.inl (G.2.2 2, 24, .inr (.inr (.inr (.inr (fun i => if i < 24 then some (z + (3 + 4 * i)) else none)))))) H ∧ AT G (z + 2) (.inl (G.2.2 3, 24, .inr (.inr (.inr (.inr (fun i => if i < 24 then some (z + (4 + 4 * i)) else none)))))) H ∧ (∀ i, i < 24 → FX5 G z i H)
theorem DX5.kept {G : Gx} {a z : Nat} {H H1 : Heap} (h : DX5 G a z H) (ho : ∀ q, (q = a ∨ (z ≤ q ∧ q < z + 99)) → H1[q]? = H[q]?) : DX5 G a z H1 := ⟨va_at.kept (h.1) (ho _ (Or.inl rfl)), va_at.kept (h.2.1) (ho _ (by right; dsimp only; omega)), va_at.kept (h.2.2.1) (ho _ (by right; dsimp only; omega)), va_at.kept (h.2.2.2.1) (ho _ (by right; dsimp only; omega)), fun i hi => FX5.kept (h.2.2.2.2 i hi) (fun q h1 h2 => ho q (by omega))⟩
abbrev QX5 (G : Gx) (a z : Nat) (H : Heap) : Prop := H.size = z + 99 ∧ DX5 G a z H
set_option maxHeartbeats 4000000 in
set_option maxRecDepth 100000 in
theorem i_X5 (l : Launch) (G : Gx) (a z : Nat) (V : Nat → Value) : KM0 l yX5_init cX5_init 2 [.ref a] 2 99 10152 (KS G z (fun H => a < z ∧ KO G 5 3 a V H)) (QX5 G a z) (fun q => q = a ∨ z ≤ q) := by
  refine met_ofK (own := RX5) (by decide +kernel) rfl [(0, .ref a)] rfl (Nat.le_of_ble_eq_true rfl) ?_
  intro p e s m args below meth c ls hC hni hK hAO hz hP hl
  obtain ⟨haz, hO⟩ := hP
  have hni : meth.name = "<init>" := hni
  have hz : s.heap.size = z + 0 := hz
  have hS : va_S (fun q => q = a ∨ z ≤ q) s.heap s.heap [] := va_S.rf
  refine lv_aload_n hC.x hC.b dX5_init_0 rfl (lv_at hl 0 rfl) ?_
  refine kobj hC hl.1 TM_X5_3 TI_obj TC_obj dX5_init_1 (Nat.le_of_ble_eq_true rfl) (Nat.le_of_ble_eq_true rfl) ?_
  refine lv_aload_n hC.x hC.b dX5_init_4 rfl (lv_at hl 0 rfl) ?_
  refine lv_bipush (v := 24) hC.x hC.b dX5_init_5 (by decide) ?_
  refine knewi (h := z + 0) hC hK hS hz (N := 24) (by decide) rfl (Nat.le_of_ble_eq_true rfl) (Nat.le_of_ble_eq_true rfl) (Nat.le_of_ble_eq_true rfl) dX5_init_7 (fun H hN zN oN hS => ?_)
  replace hO := KO.kept hO (oN _ (by omega))
  have hN_1 : AT G (z + 0) (.inl (G.2.2 0, 24, .inl (fun _ => 0))) H := hN
  clear hN
  replace hz : H.size = z + 1 := by omega
  clear zN oN
  refine kputF hC hni hK hS (Or.inl rfl) hO rfl uin_X5 tyX5 tyX5_ok nmX5 0 (by decide) TF_X5_9 rfl rfl rfl rfl dX5_init_9 (fun H locs hO zN oN hS => ?_)
  replace hN_1 := va_at.kept hN_1 (oN _ (by omega))
  replace hz : H.size = z + 1 := by omega
  clear zN oN
  refine lv_aload_n hC.x hC.b dX5_init_12 rfl (lv_at hl 0 rfl) ?_
  refine lv_bipush (v := 24) hC.x hC.b dX5_init_13 (by decide) ?_
  refine knewq (h := z + 1) hC hK hS hz (t := 2) rfl TL_X5_15 hAO.1 (N := 24) (by decide) rfl (Nat.le_of_ble_eq_true rfl) (Nat.le_of_ble_eq_true rfl) (Nat.le_of_ble_eq_true rfl) dX5_init_15 (fun H hN zN oN hS => ?_)
  replace hO := KO.kept hO (oN _ (by omega))
  replace hN_1 := va_at.kept hN_1 (oN _ (by omega))
  have hN_2 : AT G (z + 1) (.inl (G.2.2 2, 24, .inr (.inr (.inr (.inr (fun _ => none)))))) H := hN
  replace hz : H.size = z + 2 := by omega
  clear zN oN
  refine kputF hC hni hK hS (Or.inl rfl) hO rfl uin_X5 tyX5 tyX5_ok nmX5 1 (by decide) TF_X5_17 rfl rfl rfl rfl dX5_init_18 (fun H locs hO zN oN hS => ?_)
  replace hN_1 := va_at.kept hN_1 (oN _ (by omega))
  replace hN_2 := va_at.kept hN_2 (oN _ (by omega))
  replace hz : H.size = z + 2 := by omega
  clear zN oN
  refine lv_aload_n hC.x hC.b dX5_init_21 rfl (lv_at hl 0 rfl) ?_
  refine lv_bipush (v := 24) hC.x hC.b dX5_init_22 (by decide) ?_
  refine knewq (h := z + 2) hC hK hS hz (t := 3) rfl TL_X5_21 hAO.2.1 (N := 24) (by decide) rfl (Nat.le_of_ble_eq_true rfl) (Nat.le_of_ble_eq_true rfl) (Nat.le_of_ble_eq_true rfl) dX5_init_24 (fun H hN zN oN hS => ?_)
  replace hO := KO.kept hO (oN _ (by omega))
  replace hN_1 := va_at.kept hN_1 (oN _ (by omega))
  replace hN_2 := va_at.kept hN_2 (oN _ (by omega))
  have hN_3 : AT G (z + 2) (.inl (G.2.2 3, 24, .inr (.inr (.inr (.inr (fun _ => none)))))) H := hN
  replace hz : H.size = z + 3 := by omega
  clear zN oN
  refine kputF hC hni hK hS (Or.inl rfl) hO rfl uin_X5 tyX5 tyX5_ok nmX5 2 (by decide) TF_X5_23 rfl rfl rfl rfl dX5_init_27 (fun H locs hO zN oN hS => ?_)
  replace hN_1 := va_at.kept hN_1 (oN _ (by omega))
  replace hN_2 := va_at.kept hN_2 (oN _ (by omega))
  replace hN_3 := va_at.kept hN_3 (oN _ (by omega))
  replace hz : H.size = z + 3 := by omega
  clear zN oN
  refine lv_iconst (v := 0) hC.x hC.b dX5_init_30 (by decide) ?_
  refine lv_istore_n (lv' := [(1, .int (0)), (0, .ref a)]) hC.x hC.b dX5_init_31 rfl hl (by decide) rfl (fun ls hl => ?_)
  have hO9 := hO
  revert hO
  generalize hV9 : (updV (updV (updV V 0 (.ref (z + 0))) 1 (.ref (z + 1))) 2 (.ref (z + 2))) = V9
  intro hO
  have hv0 : V9 0 = .ref (z + 0) := by rw [← hV9]; rfl
  have hv1 : V9 1 = .ref (z + 1) := by rw [← hV9]; rfl
  have hv2 : V9 2 = .ref (z + 2) := by rw [← hV9]; rfl
  have L : ∀ (F i : Nat) (f : Nat → Int32), 24 - i < F → i ≤ 24 → (∀ j, j < i → f j = -1) → ∀ (H : Heap) (locs : List Loc) (ls : Array Slot), KO G 5 3 a V9 H → KI G (z + 0) 24 f H → KQ G 2 (z + 1) 24 (fun j => if j < i then some (z + (3 + 4 * j)) else none) H → KQ G 3 (z + 2) 24 (fun j => if j < i then some (z + (4 + 4 * j)) else none) H → (∀ j, j < i → FX5 G z j H) → H.size = z + (3 + 4 * i) → va_S (fun q => q = a ∨ z ≤ q) s.heap H locs → lv_has ls 2 [(1, .int (nI i)), (0, .ref a)] →
      W p l e (rmK 2 99 10152) s m args below meth c H locs (3 + 4 * i) (72 + 420 * i) (MQ below (va_Qv (fun _ : Unit => True) (fun _ t => QX5 G a z t.heap) (fun q => q = a ∨ z ≤ q)) args s 99 10152 (fun q => q = a ∨ z ≤ q)) (F0 m 32 ls []) := by
    intro F
    induction F with
    | zero => intro i f hm; exact absurd hm (Nat.not_lt_zero _)
    | succ F ih =>
      intro i f hm hi hf H locs ls hO hI hQ1 hQ2 hX hz hS hl
      have hnI := nI_T i (by omega)
      have e1 : (nI i).toNatClampNeg = i := (clampOf hnI).trans (Int.toNat_natCast i)
      refine lv_iload_n hC.x hC.b dX5_init_32 rfl (lv_at hl 0 rfl) ?_
      refine lv_bipush (v := 24) hC.x hC.b dX5_init_33 (by decide) ?_
      refine bi_ge (tgt := 78) (a := (i : Int)) (b := 24) hC.x hC.b hnI (by decide) dX5_init_35 (by decide) (fun c_1 => ?_) (fun c_1 => ?_)
      · have hi24 : i = 24 := by omega
        subst hi24
        refine kret hC hS ⟨by omega, ⟨_, rfl, hO.to (fun j hj => ?_)⟩, ki_congr hI (fun j hj => hf j hj), hQ1, hQ2, hX⟩ (Nat.le_of_ble_eq_true rfl) (Nat.le_of_ble_eq_true rfl) dX5_init_78
        rcases (show j = 0 ∨ j = 1 ∨ j = 2 by omega) with rfl | rfl | rfl
        · exact hv0
        · exact hv1
        · exact hv2
      · have hin : vp_in (nI i) 24 := vin hnI (by omega) (by omega)
        refine lv_aload_n hC.x hC.b dX5_init_38 rfl (lv_at hl 1 rfl) ?_
        refine kget (v := .ref (z + 0)) hC hK hO rfl uin_X5 0 (by decide) TF_X5_9 hv0 dX5_init_39 ?_
        refine lv_iload_n hC.x hC.b dX5_init_42 rfl (lv_at hl 0 rfl) ?_
        refine lv_iconst (v := (-1)) hC.x hC.b dX5_init_43 (by decide) ?_
        refine kiast (a := (z + 0)) (n := 24) hC hK hS (Or.inr (by omega)) hI hin dX5_init_44 (fun H locs hI zN oN hS => ?_)
        have hO := KO.kept hO (oN _ (by omega))
        have hQ1 := kc_kept hQ1 (oN _ (by omega))
        have hQ2 := kc_kept hQ2 (oN _ (by omega))
        have hX := fun j (hj : j < i) => FX5.kept (hX j hj) (fun q h1 h2 => oN q (by omega))
        have hz : H.size = z + (3 + 4 * i) := by omega
        have hI : KI G (z + 0) 24 (fun j => if j = i then -1 else f j) H := ki_congr hI (fun j hj => by rw [e1])
        refine lv_aload_n hC.x hC.b dX5_init_45 rfl (lv_at hl 1 rfl) ?_
        refine kget (v := .ref (z + 1)) hC hK hO rfl uin_X5 1 (by decide) TF_X5_17 hv1 dX5_init_46 ?_
        refine lv_iload_n hC.x hC.b dX5_init_49 rfl (lv_at hl 0 rfl) ?_
        refine knew (ci := 0) (h := z + (3 + 4 * i)) hC hK hS hz rfl uin_X0 tyX0 tyX0_ok TL_X5_15 TB_X0 TN_X0 (by show _ ≤ 99; omega) (by show _ ≤ 10152; omega) dX5_init_50 (fun H hN zN oN hS => ?_)
        have hO := KO.kept hO (oN _ (by omega))
        have hI := kc_kept hI (oN _ (by omega))
        have hQ1 := kc_kept hQ1 (oN _ (by omega))
        have hQ2 := kc_kept hQ2 (oN _ (by omega))
        have hX := fun j (hj : j < i) => FX5.kept (hX j hj) (fun q h1 h2 => oN q (by omega))
        have hz : H.size = z + (4 + 4 * i) := by omega
        refine lv_dup hC.x hC.b dX5_init_53 rfl ?_
        refine lv_iload_n hC.x hC.b dX5_init_54 rfl (lv_at hl 0 rfl) ?_
        refine kinit (As := [.int (nI i)]) (rest := [.ref (z + (3 + 4 * i)), .int (nI i), .ref (z + 1)]) (h := z + (4 + 4 * i)) hC hl.1 hS hz hK hAO (i_X0 l G (z + (3 + 4 * i)) (z + (4 + 4 * i)) (nI i) (fun k => defaultValue (tyX0 k))) (kcb hC.ts TC_X0_init TN_X0 TM_X5_27 hd_X0_init ⟨Nat.le_of_ble_eq_true rfl, Nat.le_of_ble_eq_true rfl⟩) rfl TI_X0_init ⟨by omega, hN⟩ rfl rfl (Nat.le_of_ble_eq_true rfl) dX5_init_55 ⟨by show _ ≤ 99; omega, by show _ ≤ 10152; omega⟩ (fun q hq => yfree (by omega) (by omega) hq) (fun H locs hQ oN hS => ?_)
        have hO := KO.kept hO (oN _ (by omega) (nfree (by omega) (by omega)))
        have hI := kc_kept hI (oN _ (by omega) (nfree (by omega) (by omega)))
        have hQ1 := kc_kept hQ1 (oN _ (by omega) (nfree (by omega) (by omega)))
        have hQ2 := kc_kept hQ2 (oN _ (by omega) (nfree (by omega) (by omega)))
        have hX := fun j (hj : j < i) => FX5.kept (hX j hj) (fun q h1 h2 => oN q (by omega) (nfree (by omega) (by omega)))
        obtain ⟨hz, hA1⟩ := hQ
        have hz : H.size = z + (4 + 4 * i) := by omega
        obtain ⟨r1, er1, hA2⟩ := id hA1
        have er2 : r1 = (RX0, TX0, 12) := (Option.some.inj er1).symm
        subst er2
        refine kqast (t := 2) (ci := 0) hC hK hS (Or.inr (by omega)) rfl rfl hQ1 hA2 hin dX5_init_58 (fun H locs hQ1 zN oN hS => ?_)
        have hO := KO.kept hO (oN _ (by omega))
        have hI := kc_kept hI (oN _ (by omega))
        have hQ2 := kc_kept hQ2 (oN _ (by omega))
        have hX := fun j (hj : j < i) => FX5.kept (hX j hj) (fun q h1 h2 => oN q (by omega))
        have hA1 := va_at.kept hA1 (oN _ (by show _ ≠ _; omega))
        have hz : H.size = z + (4 + 4 * i) := by omega
        have hQ1 : KQ G 2 (z + 1) 24 (fun j => if j < i + 1 then some (z + (3 + 4 * j)) else none) H := kq_congr hQ1 (fun j hj => by
          rw [e1]
          by_cases e2 : j = i
          · rw [if_pos e2, if_pos (by omega), e2]
          · rw [if_neg e2]
            by_cases e3 : j < i
            · rw [if_pos e3, if_pos (by omega)]
            · rw [if_neg e3, if_neg (by omega)])
        refine lv_aload_n hC.x hC.b dX5_init_59 rfl (lv_at hl 1 rfl) ?_
        refine kget (v := .ref (z + 2)) hC hK hO rfl uin_X5 2 (by decide) TF_X5_23 hv2 dX5_init_60 ?_
        refine lv_iload_n hC.x hC.b dX5_init_63 rfl (lv_at hl 0 rfl) ?_
        refine knew (ci := 4) (h := z + (4 + 4 * i)) hC hK hS hz rfl uin_X4 tyX4 tyX4_ok TL_X5_21 TB_X4 TN_X4 (by show _ ≤ 99; omega) (by show _ ≤ 10152; omega) dX5_init_64 (fun H hN zN oN hS => ?_)
        have hO := KO.kept hO (oN _ (by omega))
        have hI := kc_kept hI (oN _ (by omega))
        have hQ1 := kc_kept hQ1 (oN _ (by omega))
        have hQ2 := kc_kept hQ2 (oN _ (by omega))
        have hA1 := va_at.kept hA1 (oN _ (by show _ < _; omega))
        have hX := fun j (hj : j < i) => FX5.kept (hX j hj) (fun q h1 h2 => oN q (by omega))
        have hz : H.size = z + (5 + 4 * i) := by omega
        refine lv_dup hC.x hC.b dX5_init_67 rfl ?_
        refine kinitN (As := []) (rest := [.ref (z + (4 + 4 * i)), .int (nI i), .ref (z + 2)]) (h := z + (5 + 4 * i)) hC hl.1 hS hz hK hAO (i_X4 l G (z + (4 + 4 * i)) (z + (5 + 4 * i)) (fun k => defaultValue (tyX4 k))) (kcn hC.ts TC_X4_init TN_X4 hK.2.1 hd_X4_init ⟨Nat.le_of_ble_eq_true rfl, Nat.le_of_ble_eq_true rfl⟩) rfl TI_X4_init ⟨by omega, hN⟩ rfl rfl (Nat.le_of_ble_eq_true rfl) dX5_init_68 ⟨by show _ ≤ 99; omega, by show _ ≤ 10152; omega⟩ (fun q hq => yfree (by omega) (by omega) hq) (fun H locs hQ oN hS => ?_)
        have hO := KO.kept hO (oN _ (by omega) (nfree (by omega) (by omega)))
        have hI := kc_kept hI (oN _ (by omega) (nfree (by omega) (by omega)))
        have hQ1 := kc_kept hQ1 (oN _ (by omega) (nfree (by omega) (by omega)))
        have hQ2 := kc_kept hQ2 (oN _ (by omega) (nfree (by omega) (by omega)))
        have hA1 := va_at.kept hA1 (oN _ (by show _ < _; omega) (nfree (by show _ ≠ _; omega) (by show _ < _; omega)))
        have hX := fun j (hj : j < i) => FX5.kept (hX j hj) (fun q h1 h2 => oN q (by omega) (nfree (by omega) (by omega)))
        obtain ⟨hz, hB1, hB2, hB3⟩ := hQ
        have hz : H.size = z + (7 + 4 * i) := by omega
        obtain ⟨r1, er1, hBO⟩ := id hB1
        have er2 : r1 = (RX4, TX4, 6) := (Option.some.inj er1).symm
        subst er2
        refine kqast (t := 3) (ci := 4) hC hK hS (Or.inr (by omega)) rfl rfl hQ2 hBO hin dX5_init_71 (fun H locs hQ2 zN oN hS => ?_)
        have hO := KO.kept hO (oN _ (by omega))
        have hI := kc_kept hI (oN _ (by omega))
        have hQ1 := kc_kept hQ1 (oN _ (by omega))
        have hA1 := va_at.kept hA1 (oN _ (by show _ ≠ _; omega))
        have hB1 := va_at.kept hB1 (oN _ (by show _ ≠ _; omega))
        have hB2 := va_at.kept hB2 (oN _ (by show _ ≠ _; omega))
        have hB3 := va_at.kept hB3 (oN _ (by show _ ≠ _; omega))
        have hX := fun j (hj : j < i) => FX5.kept (hX j hj) (fun q h1 h2 => oN q (by omega))
        have hz : H.size = z + (3 + 4 * (i + 1)) := by omega
        have hQ2 : KQ G 3 (z + 2) 24 (fun j => if j < i + 1 then some (z + (4 + 4 * j)) else none) H := kq_congr hQ2 (fun j hj => by
          rw [e1]
          by_cases e2 : j = i
          · rw [if_pos e2, if_pos (by omega), e2]
          · rw [if_neg e2]
            by_cases e3 : j < i
            · rw [if_pos e3, if_pos (by omega)]
            · rw [if_neg e3, if_neg (by omega)])
        refine W.widen (k := 3 + 4 * (i + 1)) (n := 72 + 420 * (i + 1)) (by omega) (by omega) ?_
        refine lv_iinc (v := nI (i + 1)) (lv' := [(1, .int (nI (i + 1))), (0, .ref a)]) hC.x hC.b dX5_init_72 hl (k := 0) rfl (nI_succ _).symm (by decide) rfl (fun ls hl => ?_)
        refine lv_goto (tgt := 32) hC.x hC.b dX5_init_75 (by decide) ?_
        refine ih (i + 1) _ (by omega) (by omega) (fun j hj => ?_) H locs ls hO hI hQ1 hQ2 (fun j hj => ?_) hz hS hl
        · by_cases e2 : j = i
          · rw [if_pos e2]
          · rw [if_neg e2]
            exact hf j (by omega)
        · by_cases e2 : j = i
          · subst e2
            exact ⟨hA1, hB1, hB2, hB3⟩
          · exact hX j (by omega)
  exact L 25 0 (fun _ => 0) (by omega) (Nat.zero_le _) (fun j hj => absurd hj (Nat.not_lt_zero j)) _ _ _ hO hN_1 (kq_congr hN_2 (fun j hj => rfl)) (kq_congr hN_3 (fun j hj => rfl)) (fun j hj => absurd hj (Nat.not_lt_zero j)) (by omega) hS (lv_sub hl [0, 1] rfl)

