abbrev po_X10_hour (σ : SI) (τ : SL) : Int32 → SI × SL → Prop := fun v u => u = (σ, τ) ∧ (((v = σ 35 29)))
set_option maxRecDepth 100000 in
set_option maxHeartbeats 4000000 in
theorem c_X10_hour (l : Launch) {G : Gx} {A : Nat → Prop} (hG : GOk G A) (σ : SI) (τ : SL) : MI l G A 0 yX10_hour cX10_hour 1 (some .int) [.ref (G.2.1 35)] (σ, τ) (po_X10_hour σ τ ) := by
  refine met_of (own := RX10) (by decide +kernel) rfl [(0, .ref (G.2.1 35))] rfl (Nat.le_of_ble_eq_true rfl) ?_
  intro p e s m args below meth c ls hC hK hR hl
  have hS : va_S A s.heap s.heap [] := va_S.rf
  refine lv_aload_n hC.x hC.b dX10_hour_0 rfl (lv_at hl 0 rfl) ?_
  refine rget hC hK hR (ct_model G _ _) rfl uin_X10 29 (by decide) TF_X10_137 rfl dX10_hour_1 ?_
  exact reti hC hK hR hS ⟨rfl, (by first | rfl | omega)⟩ dX10_hour_4

abbrev po_X10_off (σ : SI) (τ : SL) : Int32 → SI × SL → Prop := fun v u => u = (σ, τ) ∧ (((v = σ 35 33)))
set_option maxRecDepth 100000 in
set_option maxHeartbeats 4000000 in
theorem c_X10_off (l : Launch) {G : Gx} {A : Nat → Prop} (hG : GOk G A) (σ : SI) (τ : SL) : MI l G A 0 yX10_off cX10_off 1 (some .int) [.ref (G.2.1 35)] (σ, τ) (po_X10_off σ τ ) := by
  refine met_of (own := RX10) (by decide +kernel) rfl [(0, .ref (G.2.1 35))] rfl (Nat.le_of_ble_eq_true rfl) ?_
  intro p e s m args below meth c ls hC hK hR hl
  have hS : va_S A s.heap s.heap [] := va_S.rf
  refine lv_aload_n hC.x hC.b dX10_off_0 rfl (lv_at hl 0 rfl) ?_
  refine rget hC hK hR (ct_model G _ _) rfl uin_X10 33 (by decide) TF_X10_235 rfl dX10_off_1 ?_
  exact reti hC hK hR hS ⟨rfl, (by first | rfl | omega)⟩ dX10_off_4

abbrev po_X10_show (σ : SI) (τ : SL) (xa : Int32) : Int32 → SI × SL → Prop := fun v u => ((v = (0)) ∧ (u.1 = σ) ∧ (u.2 = τ) ∧ (¬ (-1000000 ≤ xa.toInt ∧ xa.toInt ≤ 1000000))) ∨ ((v = (1)) ∧ (u.1 = up2 σ 35 33 xa) ∧ (u.2 = τ) ∧ (-1000000 ≤ xa.toInt) ∧ (xa.toInt ≤ 1000000))
set_option maxRecDepth 100000 in
set_option maxHeartbeats 4000000 in
theorem c_X10_show (l : Launch) {G : Gx} {A : Nat → Prop} (hG : GOk G A) (σ : SI) (τ : SL) (xa : Int32) : MI l G A 1 yX10_show cX10_show 2 (some .boolean) [.ref (G.2.1 35), .int xa] (σ, τ) (po_X10_show σ τ xa) := by
  refine met_of (own := RX10) (by decide +kernel) rfl [(0, .ref (G.2.1 35)), (1, .int xa)] rfl (Nat.le_of_ble_eq_true rfl) ?_
  intro p e s m args below meth c ls hC hK hR hl
  have hS : va_S A s.heap s.heap [] := va_S.rf
  refine lv_iload_n hC.x hC.b dX10_show_0 rfl (lv_at hl 1 rfl) ?_
  refine lv_ldcw hC.x hC.b hC.ow (hC.ts _ TK_X10_256) dX10_show_1 ?_
  refine lv_ldc hC.x hC.b hC.ow (hC.ts _ TK_X10_151) dX10_show_4 ?_
  have av_1 : (-1000000 : Int32).toInt = -1000000 := by decide
  have av_2 : (1000000 : Int32).toInt = 1000000 := by decide
  refine goip (runS (As := [.int xa, .int (-1000000 : Int32), .int (1000000 : Int32)]) (rest := []) hC hK hR hl.1 (c_X10_isIn l hG σ τ xa (-1000000 : Int32) (1000000 : Int32) ) (call_b hC.ts TC_X10_isIn TN_X10 TM_X10_129 hd_X10_isIn ⟨Nat.le_of_ble_eq_true rfl, Nat.le_of_ble_eq_true rfl⟩) TT_X10_isIn rfl rfl (Nat.le_of_ble_eq_true rfl) dX10_show_6 ⟨Nat.le_of_ble_eq_true rfl, Nat.le_of_ble_eq_true rfl⟩) hS (fun v_3 H locs w_4 hR hS => ?_)
  rcases w_4 with ⟨rfl, f_5, f_6⟩ | ⟨rfl, f_7⟩
  · skip
    refine bz_ne (tgt := 14) (a := 1) (b := 0) hC.x hC.b rfl rfl dX10_show_9 (by decide) (fun _ => ?_) (fun c_8 => absurd c_8 (by decide))
    refine lv_aload_n hC.x hC.b dX10_show_14 rfl (lv_at hl 0 rfl) ?_
    refine lv_iload_n hC.x hC.b dX10_show_15 rfl (lv_at hl 1 rfl) ?_
    refine rputi hC hK hG hR hS (ct_model G _ _) rfl uin_X10 tyX10 tyX10_ok nmX10 33 (by decide) TF_X10_235 rfl (Or.inl rfl) (Nat.le_of_ble_eq_true rfl) rfl (ct_model G _ _) dX10_show_16 (fun s_10 es_9 H locs hR hS => ?_)
    refine lv_iconst (v := 1) hC.x hC.b dX10_show_19 (by decide) ?_
    exact retz hC hK hR hS (Or.inr rfl) (by first | exact Or.inr ((⟨by subst es_9; (first | rfl | omega), by subst es_9; (first | rfl | assumption), by subst es_9; (rfl), by subst es_9; (first | omega | assumption), by subst es_9; (first | omega | assumption)⟩)) | exact False.elim (by omega)) dX10_show_20
  · skip
    refine bz_ne (tgt := 14) (a := 0) (b := 0) hC.x hC.b rfl rfl dX10_show_9 (by decide) (fun c_11 => absurd c_11 (by decide)) (fun _ => ?_)
    refine lv_iconst (v := 0) hC.x hC.b dX10_show_12 (by decide) ?_
    exact retz hC hK hR hS (Or.inl rfl) (by first | exact Or.inl (⟨by first | rfl | omega, by first | rfl | assumption, by rfl, by first | omega | assumption⟩) | exact False.elim (by omega)) dX10_show_13

abbrev po_X10_set (σ : SI) (τ : SL) (wa : Int32) (xa : Int32) : Int32 → SI × SL → Prop := fun v u => ((v = (1)) ∧ (u.1 = up2 σ 35 30 xa) ∧ (u.2 = τ) ∧ (wa.toInt = 0) ∧ (1 ≤ xa.toInt ∧ xa.toInt ≤ 100)) ∨ ((v = (1)) ∧ (u.1 = up2 σ 35 31 xa) ∧ (u.2 = τ) ∧ (wa.toInt = 1) ∧ (2 ≤ xa.toInt ∧ xa.toInt ≤ 20)) ∨ ((v = (1)) ∧ (u.1 = up2 σ 35 32 xa) ∧ (u.2 = τ) ∧ (wa.toInt = 2) ∧ (0 ≤ xa.toInt ∧ xa.toInt ≤ 3599)) ∨ ((v = (0)) ∧ (u.1 = σ) ∧ (u.2 = τ) ∧ (¬ (wa.toInt = 0 ∧ 1 ≤ xa.toInt ∧ xa.toInt ≤ 100)) ∧ (¬ (wa.toInt = 1 ∧ 2 ≤ xa.toInt ∧ xa.toInt ≤ 20)) ∧ (¬ (wa.toInt = 2 ∧ 0 ≤ xa.toInt ∧ xa.toInt ≤ 3599)))
set_option maxRecDepth 100000 in
set_option maxHeartbeats 4000000 in
theorem c_X10_set (l : Launch) {G : Gx} {A : Nat → Prop} (hG : GOk G A) (σ : SI) (τ : SL) (wa : Int32) (xa : Int32) : MI l G A 1 yX10_set cX10_set 3 (some .boolean) [.ref (G.2.1 35), .int wa, .int xa] (σ, τ) (po_X10_set σ τ wa xa) := by
  refine met_of (own := RX10) (by decide +kernel) rfl [(0, .ref (G.2.1 35)), (1, .int wa), (2, .int xa)] rfl (Nat.le_of_ble_eq_true rfl) ?_
  intro p e s m args below meth c ls hC hK hR hl
  have hS : va_S A s.heap s.heap [] := va_S.rf
  refine lv_iload_n hC.x hC.b dX10_set_0 rfl (lv_at hl 1 rfl) ?_
  refine bz_ne (tgt := 22) (a := wa.toInt) (b := 0) hC.x hC.b rfl rfl dX10_set_1 (by decide) (fun c_1 => ?_) (fun c_1 => ?_)
  · skip
    refine lv_iload_n hC.x hC.b dX10_set_22 rfl (lv_at hl 1 rfl) ?_
    refine lv_iconst (v := 1) hC.x hC.b dX10_set_23 (by decide) ?_
    refine bi_ne (tgt := 45) (a := wa.toInt) (b := 1) hC.x hC.b rfl rfl dX10_set_24 (by decide) (fun c_2 => ?_) (fun c_2 => ?_)
    · skip
      refine lv_iload_n hC.x hC.b dX10_set_45 rfl (lv_at hl 1 rfl) ?_
      refine lv_iconst (v := 2) hC.x hC.b dX10_set_46 (by decide) ?_
      refine bi_ne (tgt := 69) (a := wa.toInt) (b := 2) hC.x hC.b rfl rfl dX10_set_47 (by decide) (fun c_3 => ?_) (fun c_3 => ?_)
      · skip
        refine lv_iconst (v := 0) hC.x hC.b dX10_set_69 (by decide) ?_
        exact retz hC hK hR hS (Or.inl rfl) (by first | exact Or.inr (Or.inr (Or.inr ((⟨by first | rfl | omega, by first | rfl | assumption, by rfl, by first | omega | assumption, by first | omega | assumption, by first | omega | assumption⟩)))) | exact False.elim (by omega)) dX10_set_70
      · skip
        refine lv_iload_n hC.x hC.b dX10_set_50 rfl (lv_at hl 2 rfl) ?_
        refine lv_iconst (v := 0) hC.x hC.b dX10_set_51 (by decide) ?_
        refine lv_sipush (v := 3599) hC.x hC.b dX10_set_52 (by decide) ?_
        have av_4 : (0 : Int32).toInt = 0 := by decide
        have av_5 : (3599 : Int32).toInt = 3599 := by decide
        refine goip (runS (As := [.int xa, .int (0 : Int32), .int (3599 : Int32)]) (rest := []) hC hK hR hl.1 (c_X10_isIn l hG σ τ xa (0 : Int32) (3599 : Int32) ) (call_b hC.ts TC_X10_isIn TN_X10 TM_X10_129 hd_X10_isIn ⟨Nat.le_of_ble_eq_true rfl, Nat.le_of_ble_eq_true rfl⟩) TT_X10_isIn rfl rfl (Nat.le_of_ble_eq_true rfl) dX10_set_55 ⟨Nat.le_of_ble_eq_true rfl, Nat.le_of_ble_eq_true rfl⟩) hS (fun v_6 H locs w_7 hR hS => ?_)
        rcases w_7 with ⟨rfl, f_8, f_9⟩ | ⟨rfl, f_10⟩
        · skip
          refine bz_eq (tgt := 69) (a := 1) (b := 0) hC.x hC.b rfl rfl dX10_set_58 (by decide) (fun c_11 => absurd c_11 (by decide)) (fun _ => ?_)
          refine lv_aload_n hC.x hC.b dX10_set_61 rfl (lv_at hl 0 rfl) ?_
          refine lv_iload_n hC.x hC.b dX10_set_62 rfl (lv_at hl 2 rfl) ?_
          refine rputi hC hK hG hR hS (ct_model G _ _) rfl uin_X10 tyX10 tyX10_ok nmX10 32 (by decide) TF_X10_105 rfl (Or.inl rfl) (Nat.le_of_ble_eq_true rfl) rfl (ct_model G _ _) dX10_set_63 (fun s_13 es_12 H locs hR hS => ?_)
          refine lv_goto (tgt := 71) hC.x hC.b dX10_set_66 (by decide) ?_
          refine lv_iconst (v := 1) hC.x hC.b dX10_set_71 (by decide) ?_
          exact retz hC hK hR hS (Or.inr rfl) (by first | exact Or.inl (⟨by subst es_12; (first | rfl | omega), by subst es_12; (first | rfl | assumption), by subst es_12; (rfl), by subst es_12; (first | omega | assumption), by subst es_12; (first | omega | assumption)⟩) | exact Or.inr (Or.inl (⟨by subst es_12; (first | rfl | omega), by subst es_12; (first | rfl | assumption), by subst es_12; (rfl), by subst es_12; (first | omega | assumption), by subst es_12; (first | omega | assumption)⟩)) | exact Or.inr (Or.inr (Or.inl (⟨by subst es_12; (first | rfl | omega), by subst es_12; (first | rfl | assumption), by subst es_12; (rfl), by subst es_12; (first | omega | assumption), by subst es_12; (first | omega | assumption)⟩))) | exact False.elim (by omega)) dX10_set_72
        · skip
          refine bz_eq (tgt := 69) (a := 0) (b := 0) hC.x hC.b rfl rfl dX10_set_58 (by decide) (fun _ => ?_) (fun c_14 => absurd c_14 (by decide))
          refine lv_iconst (v := 0) hC.x hC.b dX10_set_69 (by decide) ?_
          exact retz hC hK hR hS (Or.inl rfl) (by first | exact Or.inr (Or.inr (Or.inr ((⟨by first | rfl | omega, by first | rfl | assumption, by rfl, by first | omega | assumption, by first | omega | assumption, by first | omega | assumption⟩)))) | exact False.elim (by omega)) dX10_set_70
    · skip
      refine lv_iload_n hC.x hC.b dX10_set_27 rfl (lv_at hl 2 rfl) ?_
      refine lv_iconst (v := 2) hC.x hC.b dX10_set_28 (by decide) ?_
      refine lv_bipush (v := 20) hC.x hC.b dX10_set_29 (by decide) ?_
      have av_15 : (2 : Int32).toInt = 2 := by decide
      have av_16 : (20 : Int32).toInt = 20 := by decide
      refine goip (runS (As := [.int xa, .int (2 : Int32), .int (20 : Int32)]) (rest := []) hC hK hR hl.1 (c_X10_isIn l hG σ τ xa (2 : Int32) (20 : Int32) ) (call_b hC.ts TC_X10_isIn TN_X10 TM_X10_129 hd_X10_isIn ⟨Nat.le_of_ble_eq_true rfl, Nat.le_of_ble_eq_true rfl⟩) TT_X10_isIn rfl rfl (Nat.le_of_ble_eq_true rfl) dX10_set_31 ⟨Nat.le_of_ble_eq_true rfl, Nat.le_of_ble_eq_true rfl⟩) hS (fun v_17 H locs w_18 hR hS => ?_)
      rcases w_18 with ⟨rfl, f_19, f_20⟩ | ⟨rfl, f_21⟩
      · skip
        refine bz_eq (tgt := 45) (a := 1) (b := 0) hC.x hC.b rfl rfl dX10_set_34 (by decide) (fun c_22 => absurd c_22 (by decide)) (fun _ => ?_)
        refine lv_aload_n hC.x hC.b dX10_set_37 rfl (lv_at hl 0 rfl) ?_
        refine lv_iload_n hC.x hC.b dX10_set_38 rfl (lv_at hl 2 rfl) ?_
        refine rputi hC hK hG hR hS (ct_model G _ _) rfl uin_X10 tyX10 tyX10_ok nmX10 31 (by decide) TF_X10_102 rfl (Or.inl rfl) (Nat.le_of_ble_eq_true rfl) rfl (ct_model G _ _) dX10_set_39 (fun s_24 es_23 H locs hR hS => ?_)
        refine lv_goto (tgt := 71) hC.x hC.b dX10_set_42 (by decide) ?_
        refine lv_iconst (v := 1) hC.x hC.b dX10_set_71 (by decide) ?_
        exact retz hC hK hR hS (Or.inr rfl) (by first | exact Or.inl (⟨by subst es_23; (first | rfl | omega), by subst es_23; (first | rfl | assumption), by subst es_23; (rfl), by subst es_23; (first | omega | assumption), by subst es_23; (first | omega | assumption)⟩) | exact Or.inr (Or.inl (⟨by subst es_23; (first | rfl | omega), by subst es_23; (first | rfl | assumption), by subst es_23; (rfl), by subst es_23; (first | omega | assumption), by subst es_23; (first | omega | assumption)⟩)) | exact Or.inr (Or.inr (Or.inl (⟨by subst es_23; (first | rfl | omega), by subst es_23; (first | rfl | assumption), by subst es_23; (rfl), by subst es_23; (first | omega | assumption), by subst es_23; (first | omega | assumption)⟩))) | exact False.elim (by omega)) dX10_set_72
      · skip
        refine bz_eq (tgt := 45) (a := 0) (b := 0) hC.x hC.b rfl rfl dX10_set_34 (by decide) (fun _ => ?_) (fun c_25 => absurd c_25 (by decide))
        refine lv_iload_n hC.x hC.b dX10_set_45 rfl (lv_at hl 1 rfl) ?_
        refine lv_iconst (v := 2) hC.x hC.b dX10_set_46 (by decide) ?_
        refine bi_ne (tgt := 69) (a := wa.toInt) (b := 2) hC.x hC.b rfl rfl dX10_set_47 (by decide) (fun c_26 => ?_) (fun c_26 => ?_)
        · skip
          refine lv_iconst (v := 0) hC.x hC.b dX10_set_69 (by decide) ?_
          exact retz hC hK hR hS (Or.inl rfl) (by first | exact Or.inr (Or.inr (Or.inr ((⟨by first | rfl | omega, by first | rfl | assumption, by rfl, by first | omega | assumption, by first | omega | assumption, by first | omega | assumption⟩)))) | exact False.elim (by omega)) dX10_set_70
        · skip
          refine lv_iload_n hC.x hC.b dX10_set_50 rfl (lv_at hl 2 rfl) ?_
          refine lv_iconst (v := 0) hC.x hC.b dX10_set_51 (by decide) ?_
          refine lv_sipush (v := 3599) hC.x hC.b dX10_set_52 (by decide) ?_
          have av_27 : (0 : Int32).toInt = 0 := by decide
          have av_28 : (3599 : Int32).toInt = 3599 := by decide
          refine goip (runS (As := [.int xa, .int (0 : Int32), .int (3599 : Int32)]) (rest := []) hC hK hR hl.1 (c_X10_isIn l hG σ τ xa (0 : Int32) (3599 : Int32) ) (call_b hC.ts TC_X10_isIn TN_X10 TM_X10_129 hd_X10_isIn ⟨Nat.le_of_ble_eq_true rfl, Nat.le_of_ble_eq_true rfl⟩) TT_X10_isIn rfl rfl (Nat.le_of_ble_eq_true rfl) dX10_set_55 ⟨Nat.le_of_ble_eq_true rfl, Nat.le_of_ble_eq_true rfl⟩) hS (fun v_29 H locs w_30 hR hS => ?_)
          rcases w_30 with ⟨rfl, f_31, f_32⟩ | ⟨rfl, f_33⟩
          · skip
            refine bz_eq (tgt := 69) (a := 1) (b := 0) hC.x hC.b rfl rfl dX10_set_58 (by decide) (fun c_34 => absurd c_34 (by decide)) (fun _ => ?_)
            refine lv_aload_n hC.x hC.b dX10_set_61 rfl (lv_at hl 0 rfl) ?_
            refine lv_iload_n hC.x hC.b dX10_set_62 rfl (lv_at hl 2 rfl) ?_
            refine rputi hC hK hG hR hS (ct_model G _ _) rfl uin_X10 tyX10 tyX10_ok nmX10 32 (by decide) TF_X10_105 rfl (Or.inl rfl) (Nat.le_of_ble_eq_true rfl) rfl (ct_model G _ _) dX10_set_63 (fun s_36 es_35 H locs hR hS => ?_)
            refine lv_goto (tgt := 71) hC.x hC.b dX10_set_66 (by decide) ?_
            refine lv_iconst (v := 1) hC.x hC.b dX10_set_71 (by decide) ?_
            exact retz hC hK hR hS (Or.inr rfl) (by first | exact Or.inl (⟨by subst es_35; (first | rfl | omega), by subst es_35; (first | rfl | assumption), by subst es_35; (rfl), by subst es_35; (first | omega | assumption), by subst es_35; (first | omega | assumption)⟩) | exact Or.inr (Or.inl (⟨by subst es_35; (first | rfl | omega), by subst es_35; (first | rfl | assumption), by subst es_35; (rfl), by subst es_35; (first | omega | assumption), by subst es_35; (first | omega | assumption)⟩)) | exact Or.inr (Or.inr (Or.inl (⟨by subst es_35; (first | rfl | omega), by subst es_35; (first | rfl | assumption), by subst es_35; (rfl), by subst es_35; (first | omega | assumption), by subst es_35; (first | omega | assumption)⟩))) | exact False.elim (by omega)) dX10_set_72
          · skip
            refine bz_eq (tgt := 69) (a := 0) (b := 0) hC.x hC.b rfl rfl dX10_set_58 (by decide) (fun _ => ?_) (fun c_37 => absurd c_37 (by decide))
            refine lv_iconst (v := 0) hC.x hC.b dX10_set_69 (by decide) ?_
            exact retz hC hK hR hS (Or.inl rfl) (by first | exact Or.inr (Or.inr (Or.inr ((⟨by first | rfl | omega, by first | rfl | assumption, by rfl, by first | omega | assumption, by first | omega | assumption, by first | omega | assumption⟩)))) | exact False.elim (by omega)) dX10_set_70
  · skip
    refine lv_iload_n hC.x hC.b dX10_set_4 rfl (lv_at hl 2 rfl) ?_
    refine lv_iconst (v := 1) hC.x hC.b dX10_set_5 (by decide) ?_
    refine lv_bipush (v := 100) hC.x hC.b dX10_set_6 (by decide) ?_
    have av_38 : (1 : Int32).toInt = 1 := by decide
    have av_39 : (100 : Int32).toInt = 100 := by decide
    refine goip (runS (As := [.int xa, .int (1 : Int32), .int (100 : Int32)]) (rest := []) hC hK hR hl.1 (c_X10_isIn l hG σ τ xa (1 : Int32) (100 : Int32) ) (call_b hC.ts TC_X10_isIn TN_X10 TM_X10_129 hd_X10_isIn ⟨Nat.le_of_ble_eq_true rfl, Nat.le_of_ble_eq_true rfl⟩) TT_X10_isIn rfl rfl (Nat.le_of_ble_eq_true rfl) dX10_set_8 ⟨Nat.le_of_ble_eq_true rfl, Nat.le_of_ble_eq_true rfl⟩) hS (fun v_40 H locs w_41 hR hS => ?_)
    rcases w_41 with ⟨rfl, f_42, f_43⟩ | ⟨rfl, f_44⟩
    · skip
      refine bz_eq (tgt := 22) (a := 1) (b := 0) hC.x hC.b rfl rfl dX10_set_11 (by decide) (fun c_45 => absurd c_45 (by decide)) (fun _ => ?_)
      refine lv_aload_n hC.x hC.b dX10_set_14 rfl (lv_at hl 0 rfl) ?_
      refine lv_iload_n hC.x hC.b dX10_set_15 rfl (lv_at hl 2 rfl) ?_
      refine rputi hC hK hG hR hS (ct_model G _ _) rfl uin_X10 tyX10 tyX10_ok nmX10 30 (by decide) TF_X10_98 rfl (Or.inl rfl) (Nat.le_of_ble_eq_true rfl) rfl (ct_model G _ _) dX10_set_16 (fun s_47 es_46 H locs hR hS => ?_)
      refine lv_goto (tgt := 71) hC.x hC.b dX10_set_19 (by decide) ?_
      refine lv_iconst (v := 1) hC.x hC.b dX10_set_71 (by decide) ?_
      exact retz hC hK hR hS (Or.inr rfl) (by first | exact Or.inl (⟨by subst es_46; (first | rfl | omega), by subst es_46; (first | rfl | assumption), by subst es_46; (rfl), by subst es_46; (first | omega | assumption), by subst es_46; (first | omega | assumption)⟩) | exact Or.inr (Or.inl (⟨by subst es_46; (first | rfl | omega), by subst es_46; (first | rfl | assumption), by subst es_46; (rfl), by subst es_46; (first | omega | assumption), by subst es_46; (first | omega | assumption)⟩)) | exact Or.inr (Or.inr (Or.inl (⟨by subst es_46; (first | rfl | omega), by subst es_46; (first | rfl | assumption), by subst es_46; (rfl), by subst es_46; (first | omega | assumption), by subst es_46; (first | omega | assumption)⟩))) | exact False.elim (by omega)) dX10_set_72
    · skip
      refine bz_eq (tgt := 22) (a := 0) (b := 0) hC.x hC.b rfl rfl dX10_set_11 (by decide) (fun _ => ?_) (fun c_48 => absurd c_48 (by decide))
      refine lv_iload_n hC.x hC.b dX10_set_22 rfl (lv_at hl 1 rfl) ?_
      refine lv_iconst (v := 1) hC.x hC.b dX10_set_23 (by decide) ?_
      refine bi_ne (tgt := 45) (a := wa.toInt) (b := 1) hC.x hC.b rfl rfl dX10_set_24 (by decide) (fun c_49 => ?_) (fun c_49 => ?_)
      · skip
        refine lv_iload_n hC.x hC.b dX10_set_45 rfl (lv_at hl 1 rfl) ?_
        refine lv_iconst (v := 2) hC.x hC.b dX10_set_46 (by decide) ?_
        refine bi_ne (tgt := 69) (a := wa.toInt) (b := 2) hC.x hC.b rfl rfl dX10_set_47 (by decide) (fun c_50 => ?_) (fun c_50 => ?_)
        · skip
          refine lv_iconst (v := 0) hC.x hC.b dX10_set_69 (by decide) ?_
          exact retz hC hK hR hS (Or.inl rfl) (by first | exact Or.inr (Or.inr (Or.inr ((⟨by first | rfl | omega, by first | rfl | assumption, by rfl, by first | omega | assumption, by first | omega | assumption, by first | omega | assumption⟩)))) | exact False.elim (by omega)) dX10_set_70
        · skip
          refine lv_iload_n hC.x hC.b dX10_set_50 rfl (lv_at hl 2 rfl) ?_
          refine lv_iconst (v := 0) hC.x hC.b dX10_set_51 (by decide) ?_
          refine lv_sipush (v := 3599) hC.x hC.b dX10_set_52 (by decide) ?_
          have av_51 : (0 : Int32).toInt = 0 := by decide
          have av_52 : (3599 : Int32).toInt = 3599 := by decide
          refine goip (runS (As := [.int xa, .int (0 : Int32), .int (3599 : Int32)]) (rest := []) hC hK hR hl.1 (c_X10_isIn l hG σ τ xa (0 : Int32) (3599 : Int32) ) (call_b hC.ts TC_X10_isIn TN_X10 TM_X10_129 hd_X10_isIn ⟨Nat.le_of_ble_eq_true rfl, Nat.le_of_ble_eq_true rfl⟩) TT_X10_isIn rfl rfl (Nat.le_of_ble_eq_true rfl) dX10_set_55 ⟨Nat.le_of_ble_eq_true rfl, Nat.le_of_ble_eq_true rfl⟩) hS (fun v_53 H locs w_54 hR hS => ?_)
          rcases w_54 with ⟨rfl, f_55, f_56⟩ | ⟨rfl, f_57⟩
          · skip
            refine bz_eq (tgt := 69) (a := 1) (b := 0) hC.x hC.b rfl rfl dX10_set_58 (by decide) (fun c_58 => absurd c_58 (by decide)) (fun _ => ?_)
            refine lv_aload_n hC.x hC.b dX10_set_61 rfl (lv_at hl 0 rfl) ?_
            refine lv_iload_n hC.x hC.b dX10_set_62 rfl (lv_at hl 2 rfl) ?_
            refine rputi hC hK hG hR hS (ct_model G _ _) rfl uin_X10 tyX10 tyX10_ok nmX10 32 (by decide) TF_X10_105 rfl (Or.inl rfl) (Nat.le_of_ble_eq_true rfl) rfl (ct_model G _ _) dX10_set_63 (fun s_60 es_59 H locs hR hS => ?_)
            refine lv_goto (tgt := 71) hC.x hC.b dX10_set_66 (by decide) ?_
            refine lv_iconst (v := 1) hC.x hC.b dX10_set_71 (by decide) ?_
            exact retz hC hK hR hS (Or.inr rfl) (by first | exact Or.inl (⟨by subst es_59; (first | rfl | omega), by subst es_59; (first | rfl | assumption), by subst es_59; (rfl), by subst es_59; (first | omega | assumption), by subst es_59; (first | omega | assumption)⟩) | exact Or.inr (Or.inl (⟨by subst es_59; (first | rfl | omega), by subst es_59; (first | rfl | assumption), by subst es_59; (rfl), by subst es_59; (first | omega | assumption), by subst es_59; (first | omega | assumption)⟩)) | exact Or.inr (Or.inr (Or.inl (⟨by subst es_59; (first | rfl | omega), by subst es_59; (first | rfl | assumption), by subst es_59; (rfl), by subst es_59; (first | omega | assumption), by subst es_59; (first | omega | assumption)⟩))) | exact False.elim (by omega)) dX10_set_72
          · skip
            refine bz_eq (tgt := 69) (a := 0) (b := 0) hC.x hC.b rfl rfl dX10_set_58 (by decide) (fun _ => ?_) (fun c_61 => absurd c_61 (by decide))
            refine lv_iconst (v := 0) hC.x hC.b dX10_set_69 (by decide) ?_
            exact retz hC hK hR hS (Or.inl rfl) (by first | exact Or.inr (Or.inr (Or.inr ((⟨by first | rfl | omega, by first | rfl | assumption, by rfl, by first | omega | assumption, by first | omega | assumption, by first | omega | assumption⟩)))) | exact False.elim (by omega)) dX10_set_70
      · skip
        refine lv_iload_n hC.x hC.b dX10_set_27 rfl (lv_at hl 2 rfl) ?_
        refine lv_iconst (v := 2) hC.x hC.b dX10_set_28 (by decide) ?_
        refine lv_bipush (v := 20) hC.x hC.b dX10_set_29 (by decide) ?_
        have av_62 : (2 : Int32).toInt = 2 := by decide
        have av_63 : (20 : Int32).toInt = 20 := by decide
        refine goip (runS (As := [.int xa, .int (2 : Int32), .int (20 : Int32)]) (rest := []) hC hK hR hl.1 (c_X10_isIn l hG σ τ xa (2 : Int32) (20 : Int32) ) (call_b hC.ts TC_X10_isIn TN_X10 TM_X10_129 hd_X10_isIn ⟨Nat.le_of_ble_eq_true rfl, Nat.le_of_ble_eq_true rfl⟩) TT_X10_isIn rfl rfl (Nat.le_of_ble_eq_true rfl) dX10_set_31 ⟨Nat.le_of_ble_eq_true rfl, Nat.le_of_ble_eq_true rfl⟩) hS (fun v_64 H locs w_65 hR hS => ?_)
        rcases w_65 with ⟨rfl, f_66, f_67⟩ | ⟨rfl, f_68⟩
        · skip
          refine bz_eq (tgt := 45) (a := 1) (b := 0) hC.x hC.b rfl rfl dX10_set_34 (by decide) (fun c_69 => absurd c_69 (by decide)) (fun _ => ?_)
          refine lv_aload_n hC.x hC.b dX10_set_37 rfl (lv_at hl 0 rfl) ?_
          refine lv_iload_n hC.x hC.b dX10_set_38 rfl (lv_at hl 2 rfl) ?_
          refine rputi hC hK hG hR hS (ct_model G _ _) rfl uin_X10 tyX10 tyX10_ok nmX10 31 (by decide) TF_X10_102 rfl (Or.inl rfl) (Nat.le_of_ble_eq_true rfl) rfl (ct_model G _ _) dX10_set_39 (fun s_71 es_70 H locs hR hS => ?_)
          refine lv_goto (tgt := 71) hC.x hC.b dX10_set_42 (by decide) ?_
          refine lv_iconst (v := 1) hC.x hC.b dX10_set_71 (by decide) ?_
          exact retz hC hK hR hS (Or.inr rfl) (by first | exact Or.inl (⟨by subst es_70; (first | rfl | omega), by subst es_70; (first | rfl | assumption), by subst es_70; (rfl), by subst es_70; (first | omega | assumption), by subst es_70; (first | omega | assumption)⟩) | exact Or.inr (Or.inl (⟨by subst es_70; (first | rfl | omega), by subst es_70; (first | rfl | assumption), by subst es_70; (rfl), by subst es_70; (first | omega | assumption), by subst es_70; (first | omega | assumption)⟩)) | exact Or.inr (Or.inr (Or.inl (⟨by subst es_70; (first | rfl | omega), by subst es_70; (first | rfl | assumption), by subst es_70; (rfl), by subst es_70; (first | omega | assumption), by subst es_70; (first | omega | assumption)⟩))) | exact False.elim (by omega)) dX10_set_72
        · skip
          refine bz_eq (tgt := 45) (a := 0) (b := 0) hC.x hC.b rfl rfl dX10_set_34 (by decide) (fun _ => ?_) (fun c_72 => absurd c_72 (by decide))
          refine lv_iload_n hC.x hC.b dX10_set_45 rfl (lv_at hl 1 rfl) ?_
          refine lv_iconst (v := 2) hC.x hC.b dX10_set_46 (by decide) ?_
          refine bi_ne (tgt := 69) (a := wa.toInt) (b := 2) hC.x hC.b rfl rfl dX10_set_47 (by decide) (fun c_73 => ?_) (fun c_73 => ?_)
          · skip
            refine lv_iconst (v := 0) hC.x hC.b dX10_set_69 (by decide) ?_
            exact retz hC hK hR hS (Or.inl rfl) (by first | exact Or.inr (Or.inr (Or.inr ((⟨by first | rfl | omega, by first | rfl | assumption, by rfl, by first | omega | assumption, by first | omega | assumption, by first | omega | assumption⟩)))) | exact False.elim (by omega)) dX10_set_70
          · skip
            refine lv_iload_n hC.x hC.b dX10_set_50 rfl (lv_at hl 2 rfl) ?_
            refine lv_iconst (v := 0) hC.x hC.b dX10_set_51 (by decide) ?_
            refine lv_sipush (v := 3599) hC.x hC.b dX10_set_52 (by decide) ?_
            have av_74 : (0 : Int32).toInt = 0 := by decide
            have av_75 : (3599 : Int32).toInt = 3599 := by decide
            refine goip (runS (As := [.int xa, .int (0 : Int32), .int (3599 : Int32)]) (rest := []) hC hK hR hl.1 (c_X10_isIn l hG σ τ xa (0 : Int32) (3599 : Int32) ) (call_b hC.ts TC_X10_isIn TN_X10 TM_X10_129 hd_X10_isIn ⟨Nat.le_of_ble_eq_true rfl, Nat.le_of_ble_eq_true rfl⟩) TT_X10_isIn rfl rfl (Nat.le_of_ble_eq_true rfl) dX10_set_55 ⟨Nat.le_of_ble_eq_true rfl, Nat.le_of_ble_eq_true rfl⟩) hS (fun v_76 H locs w_77 hR hS => ?_)
            rcases w_77 with ⟨rfl, f_78, f_79⟩ | ⟨rfl, f_80⟩
            · skip
              refine bz_eq (tgt := 69) (a := 1) (b := 0) hC.x hC.b rfl rfl dX10_set_58 (by decide) (fun c_81 => absurd c_81 (by decide)) (fun _ => ?_)
              refine lv_aload_n hC.x hC.b dX10_set_61 rfl (lv_at hl 0 rfl) ?_
              refine lv_iload_n hC.x hC.b dX10_set_62 rfl (lv_at hl 2 rfl) ?_
              refine rputi hC hK hG hR hS (ct_model G _ _) rfl uin_X10 tyX10 tyX10_ok nmX10 32 (by decide) TF_X10_105 rfl (Or.inl rfl) (Nat.le_of_ble_eq_true rfl) rfl (ct_model G _ _) dX10_set_63 (fun s_83 es_82 H locs hR hS => ?_)
              refine lv_goto (tgt := 71) hC.x hC.b dX10_set_66 (by decide) ?_
              refine lv_iconst (v := 1) hC.x hC.b dX10_set_71 (by decide) ?_
              exact retz hC hK hR hS (Or.inr rfl) (by first | exact Or.inl (⟨by subst es_82; (first | rfl | omega), by subst es_82; (first | rfl | assumption), by subst es_82; (rfl), by subst es_82; (first | omega | assumption), by subst es_82; (first | omega | assumption)⟩) | exact Or.inr (Or.inl (⟨by subst es_82; (first | rfl | omega), by subst es_82; (first | rfl | assumption), by subst es_82; (rfl), by subst es_82; (first | omega | assumption), by subst es_82; (first | omega | assumption)⟩)) | exact Or.inr (Or.inr (Or.inl (⟨by subst es_82; (first | rfl | omega), by subst es_82; (first | rfl | assumption), by subst es_82; (rfl), by subst es_82; (first | omega | assumption), by subst es_82; (first | omega | assumption)⟩))) | exact False.elim (by omega)) dX10_set_72
            · skip
              refine bz_eq (tgt := 69) (a := 0) (b := 0) hC.x hC.b rfl rfl dX10_set_58 (by decide) (fun _ => ?_) (fun c_84 => absurd c_84 (by decide))
              refine lv_iconst (v := 0) hC.x hC.b dX10_set_69 (by decide) ?_
              exact retz hC hK hR hS (Or.inl rfl) (by first | exact Or.inr (Or.inr (Or.inr ((⟨by first | rfl | omega, by first | rfl | assumption, by rfl, by first | omega | assumption, by first | omega | assumption, by first | omega | assumption⟩)))) | exact False.elim (by omega)) dX10_set_70

abbrev po_X10_link (σ : SI) (τ : SL) (ia : Int32) : Int32 → SI × SL → Prop := fun v u => u = (σ, τ) ∧ (True)
set_option maxRecDepth 100000 in
set_option maxHeartbeats 4000000 in
theorem c_X10_link (l : Launch) {G : Gx} {A : Nat → Prop} (hG : GOk G A) (σ : SI) (τ : SL) (ia : Int32) (hgn : 0 ≤ (σ 35 42).toInt ∧ (σ 35 42).toInt ≤ 24) : MI l G A 1 yX10_link cX10_link 2 (some .int) [.ref (G.2.1 35), .int ia] (σ, τ) (po_X10_link σ τ ia) := by
  refine met_of (own := RX10) (by decide +kernel) rfl [(0, .ref (G.2.1 35)), (1, .int ia)] rfl (Nat.le_of_ble_eq_true rfl) ?_
  intro p e s m args below meth c ls hC hK hR hl
  have hS : va_S A s.heap s.heap [] := va_S.rf
  refine lv_iload_n hC.x hC.b dX10_link_0 rfl (lv_at hl 1 rfl) ?_
  refine lv_iconst (v := 0) hC.x hC.b dX10_link_1 (by decide) ?_
  refine lv_aload_n hC.x hC.b dX10_link_2 rfl (lv_at hl 0 rfl) ?_
  refine rget hC hK hR (ct_model G _ _) rfl uin_X10 42 (by decide) TF_X10_167 rfl dX10_link_3 ?_
  refine lv_iconst (v := 1) hC.x hC.b dX10_link_6 (by decide) ?_
  refine lv_isub hC.x hC.b dX10_link_7 ?_
  have pr_1 : ((σ 35 42) - (1 : Int32)).toInt = ((σ 35 42).toInt - 1) := subI rfl rfl (by omega) (by omega)
  have av_2 : (0 : Int32).toInt = 0 := by decide
  have av_3 : ((σ 35 42) - (1 : Int32)).toInt = ((σ 35 42).toInt - 1) := pr_1
  refine goip (runS (As := [.int ia, .int (0 : Int32), .int ((σ 35 42) - (1 : Int32))]) (rest := []) hC hK hR hl.1 (c_X10_isIn l hG σ τ ia (0 : Int32) ((σ 35 42) - (1 : Int32)) ) (call_b hC.ts TC_X10_isIn TN_X10 TM_X10_129 hd_X10_isIn ⟨Nat.le_of_ble_eq_true rfl, Nat.le_of_ble_eq_true rfl⟩) TT_X10_isIn rfl rfl (Nat.le_of_ble_eq_true rfl) dX10_link_8 ⟨Nat.le_of_ble_eq_true rfl, Nat.le_of_ble_eq_true rfl⟩) hS (fun v_4 H locs w_5 hR hS => ?_)
  rcases w_5 with ⟨rfl, f_6, f_7⟩ | ⟨rfl, f_8⟩
  · skip
    refine bz_eq (tgt := 23) (a := 1) (b := 0) hC.x hC.b rfl rfl dX10_link_11 (by decide) (fun c_9 => absurd c_9 (by decide)) (fun _ => ?_)
    refine lv_aload_n hC.x hC.b dX10_link_14 rfl (lv_at hl 0 rfl) ?_
    refine rget hC hK hR (ct_model G _ _) rfl uin_X10 40 (by decide) TF_X10_123 rfl dX10_link_15 ?_
    refine lv_iload_n hC.x hC.b dX10_link_18 rfl (lv_at hl 1 rfl) ?_
    refine ald hC hK hR (ct_m_gone G _ _) rfl (by omega) (by omega) rfl dX10_link_19 ?_
    refine lv_goto (tgt := 24) hC.x hC.b dX10_link_20 (by decide) ?_
    exact reti hC hK hR hS ⟨rfl, (trivial)⟩ dX10_link_24
  · skip
    refine bz_eq (tgt := 23) (a := 0) (b := 0) hC.x hC.b rfl rfl dX10_link_11 (by decide) (fun _ => ?_) (fun c_10 => absurd c_10 (by decide))
    refine lv_iconst (v := (-1)) hC.x hC.b dX10_link_23 (by decide) ?_
    exact reti hC hK hR hS ⟨rfl, (trivial)⟩ dX10_link_24

abbrev po_X10_step (σ : SI) (τ : SL) (ia : Int32) (wa : Int32) : Int32 → SI × SL → Prop := fun v u => u = (σ, τ) ∧ (True)
set_option maxRecDepth 100000 in
set_option maxHeartbeats 4000000 in
theorem c_X10_step (l : Launch) {G : Gx} {A : Nat → Prop} (hG : GOk G A) (σ : SI) (τ : SL) (ia : Int32) (wa : Int32) (hsn : 0 ≤ (σ 35 37).toInt ∧ (σ 35 37).toInt ≤ 100) : MI l G A 1 yX10_step cX10_step 3 (some .int) [.ref (G.2.1 35), .int ia, .int wa] (σ, τ) (po_X10_step σ τ ia wa) := by
  refine met_of (own := RX10) (by decide +kernel) rfl [(0, .ref (G.2.1 35)), (1, .int ia), (2, .int wa)] rfl (Nat.le_of_ble_eq_true rfl) ?_
  intro p e s m args below meth c ls hC hK hR hl
  have hS : va_S A s.heap s.heap [] := va_S.rf
  refine lv_iload_n hC.x hC.b dX10_step_0 rfl (lv_at hl 1 rfl) ?_
  refine lv_iconst (v := 0) hC.x hC.b dX10_step_1 (by decide) ?_
  refine lv_aload_n hC.x hC.b dX10_step_2 rfl (lv_at hl 0 rfl) ?_
  refine rget hC hK hR (ct_model G _ _) rfl uin_X10 37 (by decide) TF_X10_254 rfl dX10_step_3 ?_
  refine lv_iconst (v := 1) hC.x hC.b dX10_step_6 (by decide) ?_
  refine lv_isub hC.x hC.b dX10_step_7 ?_
  have pr_1 : ((σ 35 37) - (1 : Int32)).toInt = ((σ 35 37).toInt - 1) := subI rfl rfl (by omega) (by omega)
  have av_2 : (0 : Int32).toInt = 0 := by decide
  have av_3 : ((σ 35 37) - (1 : Int32)).toInt = ((σ 35 37).toInt - 1) := pr_1
  refine goip (runS (As := [.int ia, .int (0 : Int32), .int ((σ 35 37) - (1 : Int32))]) (rest := []) hC hK hR hl.1 (c_X10_isIn l hG σ τ ia (0 : Int32) ((σ 35 37) - (1 : Int32)) ) (call_b hC.ts TC_X10_isIn TN_X10 TM_X10_129 hd_X10_isIn ⟨Nat.le_of_ble_eq_true rfl, Nat.le_of_ble_eq_true rfl⟩) TT_X10_isIn rfl rfl (Nat.le_of_ble_eq_true rfl) dX10_step_8 ⟨Nat.le_of_ble_eq_true rfl, Nat.le_of_ble_eq_true rfl⟩) hS (fun v_4 H locs w_5 hR hS => ?_)
  rcases w_5 with ⟨rfl, f_6, f_7⟩ | ⟨rfl, f_8⟩
  · skip
    refine bz_ne (tgt := 16) (a := 1) (b := 0) hC.x hC.b rfl rfl dX10_step_11 (by decide) (fun _ => ?_) (fun c_9 => absurd c_9 (by decide))
    refine lv_iload_n hC.x hC.b dX10_step_16 rfl (lv_at hl 2 rfl) ?_
    refine bz_ne (tgt := 29) (a := wa.toInt) (b := 0) hC.x hC.b rfl rfl dX10_step_17 (by decide) (fun c_10 => ?_) (fun c_10 => ?_)
    · skip
      refine lv_iload_n hC.x hC.b dX10_step_29 rfl (lv_at hl 2 rfl) ?_
      refine lv_iconst (v := 1) hC.x hC.b dX10_step_30 (by decide) ?_
      refine bi_ne (tgt := 43) (a := wa.toInt) (b := 1) hC.x hC.b rfl rfl dX10_step_31 (by decide) (fun c_11 => ?_) (fun c_11 => ?_)
      · skip
        refine lv_iload_n hC.x hC.b dX10_step_43 rfl (lv_at hl 2 rfl) ?_
        refine lv_iconst (v := 2) hC.x hC.b dX10_step_44 (by decide) ?_
        refine bi_ne (tgt := 57) (a := wa.toInt) (b := 2) hC.x hC.b rfl rfl dX10_step_45 (by decide) (fun c_12 => ?_) (fun c_12 => ?_)
        · skip
          refine lv_iconst (v := (-1)) hC.x hC.b dX10_step_57 (by decide) ?_
          exact reti hC hK hR hS ⟨rfl, (trivial)⟩ dX10_step_58
        · skip
          refine lv_aload_n hC.x hC.b dX10_step_48 rfl (lv_at hl 0 rfl) ?_
          refine rget hC hK hR (ct_model G _ _) rfl uin_X10 36 (by decide) TF_X10_114 rfl dX10_step_49 ?_
          refine lv_iload_n hC.x hC.b dX10_step_52 rfl (lv_at hl 1 rfl) ?_
          refine ald hC hK hR (ct_m_stepMissed G _ _) rfl (by omega) (by omega) rfl dX10_step_53 ?_
          refine lv_goto (tgt := 58) hC.x hC.b dX10_step_54 (by decide) ?_
          exact reti hC hK hR hS ⟨rfl, (trivial)⟩ dX10_step_58
      · skip
        refine lv_aload_n hC.x hC.b dX10_step_34 rfl (lv_at hl 0 rfl) ?_
        refine rget hC hK hR (ct_model G _ _) rfl uin_X10 35 (by decide) TF_X10_111 rfl dX10_step_35 ?_
        refine lv_iload_n hC.x hC.b dX10_step_38 rfl (lv_at hl 1 rfl) ?_
        refine ald hC hK hR (ct_m_stepPlace G _ _) rfl (by omega) (by omega) rfl dX10_step_39 ?_
        refine lv_goto (tgt := 58) hC.x hC.b dX10_step_40 (by decide) ?_
        exact reti hC hK hR hS ⟨rfl, (trivial)⟩ dX10_step_58
    · skip
      refine lv_aload_n hC.x hC.b dX10_step_20 rfl (lv_at hl 0 rfl) ?_
      refine rget hC hK hR (ct_model G _ _) rfl uin_X10 34 (by decide) TF_X10_108 rfl dX10_step_21 ?_
      refine lv_iload_n hC.x hC.b dX10_step_24 rfl (lv_at hl 1 rfl) ?_
      refine ald hC hK hR (ct_m_stepHour G _ _) rfl (by omega) (by omega) rfl dX10_step_25 ?_
      refine lv_goto (tgt := 58) hC.x hC.b dX10_step_26 (by decide) ?_
      exact reti hC hK hR hS ⟨rfl, (trivial)⟩ dX10_step_58
  · skip
    refine bz_ne (tgt := 16) (a := 0) (b := 0) hC.x hC.b rfl rfl dX10_step_11 (by decide) (fun c_13 => absurd c_13 (by decide)) (fun _ => ?_)
    refine lv_iconst (v := (-1)) hC.x hC.b dX10_step_14 (by decide) ?_
    exact reti hC hK hR hS ⟨rfl, (trivial)⟩ dX10_step_15

abbrev po_X10_paper (σ : SI) (τ : SL) (hr : Int32) (wa : Int32) : Int32 → SI × SL → Prop := fun v u => u = (σ, τ) ∧ (True)
set_option maxRecDepth 100000 in
set_option maxHeartbeats 4000000 in
theorem c_X10_paper (l : Launch) {G : Gx} {A : Nat → Prop} (hG : GOk G A) (σ : SI) (τ : SL) (hr : Int32) (wa : Int32) (hnw : 0 ≤ (σ 35 29).toInt ∧ (σ 35 29).toInt ≤ 200) : MI l G A 1 yX10_paper cX10_paper 3 (some .int) [.ref (G.2.1 35), .int hr, .int wa] (σ, τ) (po_X10_paper σ τ hr wa) := by
  refine met_of (own := RX10) (by decide +kernel) rfl [(0, .ref (G.2.1 35)), (1, .int hr), (2, .int wa)] rfl (Nat.le_of_ble_eq_true rfl) ?_
  intro p e s m args below meth c ls hC hK hR hl
  have hS : va_S A s.heap s.heap [] := va_S.rf
  refine lv_iload_n hC.x hC.b dX10_paper_0 rfl (lv_at hl 1 rfl) ?_
  refine lv_iconst (v := 0) hC.x hC.b dX10_paper_1 (by decide) ?_
  refine lv_aload_n hC.x hC.b dX10_paper_2 rfl (lv_at hl 0 rfl) ?_
  refine rget hC hK hR (ct_model G _ _) rfl uin_X10 29 (by decide) TF_X10_137 rfl dX10_paper_3 ?_
  refine lv_iconst (v := 1) hC.x hC.b dX10_paper_6 (by decide) ?_
  refine lv_isub hC.x hC.b dX10_paper_7 ?_
  have pr_1 : ((σ 35 29) - (1 : Int32)).toInt = ((σ 35 29).toInt - 1) := subI rfl rfl (by omega) (by omega)
  have av_2 : (0 : Int32).toInt = 0 := by decide
  have av_3 : ((σ 35 29) - (1 : Int32)).toInt = ((σ 35 29).toInt - 1) := pr_1
  refine goip (runS (As := [.int hr, .int (0 : Int32), .int ((σ 35 29) - (1 : Int32))]) (rest := []) hC hK hR hl.1 (c_X10_isIn l hG σ τ hr (0 : Int32) ((σ 35 29) - (1 : Int32)) ) (call_b hC.ts TC_X10_isIn TN_X10 TM_X10_129 hd_X10_isIn ⟨Nat.le_of_ble_eq_true rfl, Nat.le_of_ble_eq_true rfl⟩) TT_X10_isIn rfl rfl (Nat.le_of_ble_eq_true rfl) dX10_paper_8 ⟨Nat.le_of_ble_eq_true rfl, Nat.le_of_ble_eq_true rfl⟩) hS (fun v_4 H locs w_5 hR hS => ?_)
  rcases w_5 with ⟨rfl, f_6, f_7⟩ | ⟨rfl, f_8⟩
  · skip
    refine bz_eq (tgt := 24) (a := 1) (b := 0) hC.x hC.b rfl rfl dX10_paper_11 (by decide) (fun c_9 => absurd c_9 (by decide)) (fun _ => ?_)
    refine lv_aload_n hC.x hC.b dX10_paper_14 rfl (lv_at hl 0 rfl) ?_
    refine rget hC hK hR (ct_model G _ _) rfl uin_X10 23 (by decide) TF_X10_80 rfl dX10_paper_15 ?_
    refine lv_iload_n hC.x hC.b dX10_paper_18 rfl (lv_at hl 1 rfl) ?_
    refine ald hC hK hR (ct_m_roots G _ _) rfl (by omega) (by omega) rfl dX10_paper_19 ?_
    refine lv_iconst (v := (-1)) hC.x hC.b dX10_paper_20 (by decide) ?_
    refine bi_ne (tgt := 26) (a := (σ 59 hr.toInt.toNat).toInt) (b := (-1)) hC.x hC.b rfl rfl dX10_paper_21 (by decide) (fun c_10 => ?_) (fun c_10 => ?_)
    · skip
      refine lv_iload_n hC.x hC.b dX10_paper_26 rfl (lv_at hl 2 rfl) ?_
      have sw_11 : wa.toInt = 0 ∨ wa.toInt = 1 ∨ wa.toInt = 2 ∨ wa.toInt = 3 ∨ wa.toInt = 4 ∨ wa.toInt = 5 ∨ (wa.toInt < 0 ∨ 5 < wa.toInt) := by omega
      rcases sw_11 with sw_11 | sw_11 | sw_11 | sw_11 | sw_11 | sw_11 | sw_11
      · skip
        refine lv_tableIn (tgt := 64) hC.x hC.b dX10_paper_27 (by omega) (by omega) (by rw [sw_11]; rfl) (by decide) ?_
        refine lv_aload_n hC.x hC.b dX10_paper_64 rfl (lv_at hl 0 rfl) ?_
        refine rget hC hK hR (ct_model G _ _) rfl uin_X10 23 (by decide) TF_X10_80 rfl dX10_paper_65 ?_
        refine lv_iload_n hC.x hC.b dX10_paper_68 rfl (lv_at hl 1 rfl) ?_
        refine ald hC hK hR (ct_m_roots G _ _) rfl (by omega) (by omega) rfl dX10_paper_69 ?_
        exact reti hC hK hR hS ⟨rfl, (trivial)⟩ dX10_paper_70
      · skip
        refine lv_tableIn (tgt := 71) hC.x hC.b dX10_paper_27 (by omega) (by omega) (by rw [sw_11]; rfl) (by decide) ?_
        refine lv_aload_n hC.x hC.b dX10_paper_71 rfl (lv_at hl 0 rfl) ?_
        refine rget hC hK hR (ct_model G _ _) rfl uin_X10 24 (by decide) TF_X10_83 rfl dX10_paper_72 ?_
        refine lv_iload_n hC.x hC.b dX10_paper_75 rfl (lv_at hl 1 rfl) ?_
        refine ald hC hK hR (ct_m_presents G _ _) rfl (by omega) (by omega) rfl dX10_paper_76 ?_
        exact reti hC hK hR hS ⟨rfl, (trivial)⟩ dX10_paper_77
      · skip
        refine lv_tableIn (tgt := 78) hC.x hC.b dX10_paper_27 (by omega) (by omega) (by rw [sw_11]; rfl) (by decide) ?_
        refine lv_aload_n hC.x hC.b dX10_paper_78 rfl (lv_at hl 0 rfl) ?_
        refine rget hC hK hR (ct_model G _ _) rfl uin_X10 28 (by decide) TF_X10_95 rfl dX10_paper_79 ?_
        refine lv_iload_n hC.x hC.b dX10_paper_82 rfl (lv_at hl 1 rfl) ?_
        refine ald hC hK hR (ct_m_sums G _ _) rfl (by omega) (by omega) rfl dX10_paper_83 ?_
        exact reti hC hK hR hS ⟨rfl, (trivial)⟩ dX10_paper_84
      · skip
        refine lv_tableIn (tgt := 85) hC.x hC.b dX10_paper_27 (by omega) (by omega) (by rw [sw_11]; rfl) (by decide) ?_
        refine lv_aload_n hC.x hC.b dX10_paper_85 rfl (lv_at hl 0 rfl) ?_
        refine rget hC hK hR (ct_model G _ _) rfl uin_X10 25 (by decide) TF_X10_86 rfl dX10_paper_86 ?_
        refine lv_iload_n hC.x hC.b dX10_paper_89 rfl (lv_at hl 1 rfl) ?_
        refine ald hC hK hR (ct_m_rests G _ _) rfl (by omega) (by omega) rfl dX10_paper_90 ?_
        exact reti hC hK hR hS ⟨rfl, (trivial)⟩ dX10_paper_91
      · skip
        refine lv_tableIn (tgt := 92) hC.x hC.b dX10_paper_27 (by omega) (by omega) (by rw [sw_11]; rfl) (by decide) ?_
        refine lv_aload_n hC.x hC.b dX10_paper_92 rfl (lv_at hl 0 rfl) ?_
        refine rget hC hK hR (ct_model G _ _) rfl uin_X10 26 (by decide) TF_X10_89 rfl dX10_paper_93 ?_
        refine lv_iload_n hC.x hC.b dX10_paper_96 rfl (lv_at hl 1 rfl) ?_
        refine ald hC hK hR (ct_m_offs G _ _) rfl (by omega) (by omega) rfl dX10_paper_97 ?_
        exact reti hC hK hR hS ⟨rfl, (trivial)⟩ dX10_paper_98
      · skip
        refine lv_tableIn (tgt := 99) hC.x hC.b dX10_paper_27 (by omega) (by omega) (by rw [sw_11]; rfl) (by decide) ?_
        refine lv_aload_n hC.x hC.b dX10_paper_99 rfl (lv_at hl 0 rfl) ?_
        refine rget hC hK hR (ct_model G _ _) rfl uin_X10 27 (by decide) TF_X10_92 rfl dX10_paper_100 ?_
        refine lv_iload_n hC.x hC.b dX10_paper_103 rfl (lv_at hl 1 rfl) ?_
        refine ald hC hK hR (ct_m_parts G _ _) rfl (by omega) (by omega) rfl dX10_paper_104 ?_
        exact reti hC hK hR hS ⟨rfl, (trivial)⟩ dX10_paper_105
      · skip
        refine lv_tableOut (tgt := 106) hC.x hC.b dX10_paper_27 (by omega) (by decide) ?_
        refine lv_iconst (v := (-1)) hC.x hC.b dX10_paper_106 (by decide) ?_
        exact reti hC hK hR hS ⟨rfl, (trivial)⟩ dX10_paper_107
    · skip
      refine lv_iconst (v := (-1)) hC.x hC.b dX10_paper_24 (by decide) ?_
      exact reti hC hK hR hS ⟨rfl, (trivial)⟩ dX10_paper_25
  · skip
    refine bz_eq (tgt := 24) (a := 0) (b := 0) hC.x hC.b rfl rfl dX10_paper_11 (by decide) (fun _ => ?_) (fun c_12 => absurd c_12 (by decide))
    refine lv_iconst (v := (-1)) hC.x hC.b dX10_paper_24 (by decide) ?_
    exact reti hC hK hR hS ⟨rfl, (trivial)⟩ dX10_paper_25

abbrev po_X10_as (σ : SI) (τ : SL) (hr : Int32) (hq : Nat) (pl : Int32) (q : Nat) (wa : Int32) : Int32 → SI × SL → Prop := fun v u => u = (σ, τ) ∧ (True)
set_option maxRecDepth 100000 in
set_option maxHeartbeats 4000000 in
theorem c_X10_as (l : Launch) {G : Gx} {A : Nat → Prop} (hG : GOk G A) (σ : SI) (τ : SL) (hr : Int32) (hq : Nat) (hp_hq : hr.toInt.toNat = hq) (pl : Int32) (q : Nat) (hp_q : pl.toInt.toNat = q) (wa : Int32) (hnw : 0 ≤ (σ 35 29).toInt ∧ (σ 35 29).toInt ≤ 200) : MI l G A 1 yX10_as cX10_as 5 (some .int) [.ref (G.2.1 35), .int hr, .int pl, .int wa] (σ, τ) (po_X10_as σ τ hr hq pl q wa) := by
  refine met_of (own := RX10) (by decide +kernel) rfl [(0, .ref (G.2.1 35)), (1, .int hr), (2, .int pl), (3, .int wa)] rfl (Nat.le_of_ble_eq_true rfl) ?_
  intro p e s m args below meth c ls hC hK hR hl
  have hS : va_S A s.heap s.heap [] := va_S.rf
  refine lv_iload_n hC.x hC.b dX10_as_0 rfl (lv_at hl 3 rfl) ?_
  refine lv_iconst (v := 0) hC.x hC.b dX10_as_1 (by decide) ?_
  refine lv_iconst (v := 4) hC.x hC.b dX10_as_2 (by decide) ?_
  have av_1 : (0 : Int32).toInt = 0 := by decide
  have av_2 : (4 : Int32).toInt = 4 := by decide
  refine goip (runS (As := [.int wa, .int (0 : Int32), .int (4 : Int32)]) (rest := []) hC hK hR hl.1 (c_X10_isIn l hG σ τ wa (0 : Int32) (4 : Int32) ) (call_b hC.ts TC_X10_isIn TN_X10 TM_X10_129 hd_X10_isIn ⟨Nat.le_of_ble_eq_true rfl, Nat.le_of_ble_eq_true rfl⟩) TT_X10_isIn rfl rfl (Nat.le_of_ble_eq_true rfl) dX10_as_3 ⟨Nat.le_of_ble_eq_true rfl, Nat.le_of_ble_eq_true rfl⟩) hS (fun v_3 H locs w_4 hR hS => ?_)
  rcases w_4 with ⟨rfl, f_5, f_6⟩ | ⟨rfl, f_7⟩
  · skip
    refine bz_ne (tgt := 11) (a := 1) (b := 0) hC.x hC.b rfl rfl dX10_as_6 (by decide) (fun _ => ?_) (fun c_8 => absurd c_8 (by decide))
    refine lv_iload_n hC.x hC.b dX10_as_11 rfl (lv_at hl 2 rfl) ?_
    refine lv_iconst (v := 0) hC.x hC.b dX10_as_12 (by decide) ?_
    refine lv_bipush (v := 23) hC.x hC.b dX10_as_13 (by decide) ?_
    have av_9 : (0 : Int32).toInt = 0 := by decide
    have av_10 : (23 : Int32).toInt = 23 := by decide
    refine goip (runS (As := [.int pl, .int (0 : Int32), .int (23 : Int32)]) (rest := []) hC hK hR hl.1 (c_X10_isIn l hG σ τ pl (0 : Int32) (23 : Int32) ) (call_b hC.ts TC_X10_isIn TN_X10 TM_X10_129 hd_X10_isIn ⟨Nat.le_of_ble_eq_true rfl, Nat.le_of_ble_eq_true rfl⟩) TT_X10_isIn rfl rfl (Nat.le_of_ble_eq_true rfl) dX10_as_15 ⟨Nat.le_of_ble_eq_true rfl, Nat.le_of_ble_eq_true rfl⟩) hS (fun v_11 H locs w_12 hR hS => ?_)
    rcases w_12 with ⟨rfl, f_13, f_14⟩ | ⟨rfl, f_15⟩
    · skip
      refine bz_eq (tgt := 49) (a := 1) (b := 0) hC.x hC.b rfl rfl dX10_as_18 (by decide) (fun c_16 => absurd c_16 (by decide)) (fun _ => ?_)
      refine lv_iload_n hC.x hC.b dX10_as_21 rfl (lv_at hl 1 rfl) ?_
      refine lv_iconst (v := 0) hC.x hC.b dX10_as_22 (by decide) ?_
      refine lv_aload_n hC.x hC.b dX10_as_23 rfl (lv_at hl 0 rfl) ?_
      refine rget hC hK hR (ct_model G _ _) rfl uin_X10 29 (by decide) TF_X10_137 rfl dX10_as_24 ?_
      refine lv_iconst (v := 1) hC.x hC.b dX10_as_27 (by decide) ?_
      refine lv_isub hC.x hC.b dX10_as_28 ?_
      have pr_17 : ((σ 35 29) - (1 : Int32)).toInt = ((σ 35 29).toInt - 1) := subI rfl rfl (by omega) (by omega)
      have av_18 : (0 : Int32).toInt = 0 := by decide
      have av_19 : ((σ 35 29) - (1 : Int32)).toInt = ((σ 35 29).toInt - 1) := pr_17
      refine goip (runS (As := [.int hr, .int (0 : Int32), .int ((σ 35 29) - (1 : Int32))]) (rest := []) hC hK hR hl.1 (c_X10_isIn l hG σ τ hr (0 : Int32) ((σ 35 29) - (1 : Int32)) ) (call_b hC.ts TC_X10_isIn TN_X10 TM_X10_129 hd_X10_isIn ⟨Nat.le_of_ble_eq_true rfl, Nat.le_of_ble_eq_true rfl⟩) TT_X10_isIn rfl rfl (Nat.le_of_ble_eq_true rfl) dX10_as_29 ⟨Nat.le_of_ble_eq_true rfl, Nat.le_of_ble_eq_true rfl⟩) hS (fun v_20 H locs w_21 hR hS => ?_)
      rcases w_21 with ⟨rfl, f_22, f_23⟩ | ⟨rfl, f_24⟩
      · skip
        refine bz_eq (tgt := 49) (a := 1) (b := 0) hC.x hC.b rfl rfl dX10_as_32 (by decide) (fun c_25 => absurd c_25 (by decide)) (fun _ => ?_)
        refine lv_aload_n hC.x hC.b dX10_as_35 rfl (lv_at hl 0 rfl) ?_
        refine rget hC hK hR (ct_model G _ _) rfl uin_X10 16 (by decide) TF_X10_59 rfl dX10_as_36 ?_
        refine lv_aload_n hC.x hC.b dX10_as_39 rfl (lv_at hl 0 rfl) ?_
        refine lv_iload_n hC.x hC.b dX10_as_40 rfl (lv_at hl 1 rfl) ?_
        refine lv_iload_n hC.x hC.b dX10_as_41 rfl (lv_at hl 2 rfl) ?_
        refine goip (runV (As := [.int hr, .int pl]) (rest := [.ref (G.2.1 52)]) hC hK hR hl.1 (c_X10_at l hG σ τ hr hq (by first | rfl | (rw [show hr.toInt = hr.toInt from rfl]; done) | (rw [show hr.toInt = hr.toInt from rfl]; exact hp_hq)) pl q (by first | rfl | (rw [show pl.toInt = pl.toInt from rfl]; done) | (rw [show pl.toInt = pl.toInt from rfl]; exact hp_q)) (by omega) (by omega)) (call_b hC.ts TC_X10_at TN_X10 TM_X10_140 hd_X10_at ⟨Nat.le_of_ble_eq_true rfl, Nat.le_of_ble_eq_true rfl⟩) TI_X10_at TS_X10_at (ct_model G _ _) rfl rfl rfl (Nat.le_of_ble_eq_true rfl) dX10_as_42 ⟨Nat.le_of_ble_eq_true rfl, Nat.le_of_ble_eq_true rfl⟩) hS (fun v_26 H locs w_27 hR hS => ?_)
        subst w_27
        refine zald hC hK hR (ct_m_hasX G _ _) (nI_T _ (by omega)) (by omega) (by omega) (Int.toNat_natCast _) dX10_as_45 ?_
        refine bz_ne (tgt := 61) (a := (σ 52 (24 * hq + q)).toInt) (b := 0) hC.x hC.b rfl rfl dX10_as_46 (by decide) (fun c_28 => ?_) (fun c_28 => ?_)
        · skip
          refine lv_aload_n hC.x hC.b dX10_as_61 rfl (lv_at hl 0 rfl) ?_
          refine lv_iload_n hC.x hC.b dX10_as_62 rfl (lv_at hl 1 rfl) ?_
          refine lv_iload_n hC.x hC.b dX10_as_63 rfl (lv_at hl 2 rfl) ?_
          refine goip (runV (As := [.int hr, .int pl]) (rest := []) hC hK hR hl.1 (c_X10_at l hG σ τ hr hq (by first | rfl | (rw [show hr.toInt = hr.toInt from rfl]; done) | (rw [show hr.toInt = hr.toInt from rfl]; exact hp_hq)) pl q (by first | rfl | (rw [show pl.toInt = pl.toInt from rfl]; done) | (rw [show pl.toInt = pl.toInt from rfl]; exact hp_q)) (by omega) (by omega)) (call_b hC.ts TC_X10_at TN_X10 TM_X10_140 hd_X10_at ⟨Nat.le_of_ble_eq_true rfl, Nat.le_of_ble_eq_true rfl⟩) TI_X10_at TS_X10_at (ct_model G _ _) rfl rfl rfl (Nat.le_of_ble_eq_true rfl) dX10_as_64 ⟨Nat.le_of_ble_eq_true rfl, Nat.le_of_ble_eq_true rfl⟩) hS (fun v_29 H locs w_30 hR hS => ?_)
          subst w_30
          refine lv_istore (lv' := [(4, .int (nI (24 * hq + q))), (0, .ref (G.2.1 35)), (1, .int hr), (2, .int pl), (3, .int wa)]) hC.x hC.b dX10_as_67 hl (by decide) rfl (fun ls hl => ?_)
          refine lv_iload_n hC.x hC.b dX10_as_69 rfl (lv_at hl 4 rfl) ?_
          have sw_31 : wa.toInt = 0 ∨ wa.toInt = 1 ∨ wa.toInt = 2 ∨ wa.toInt = 3 ∨ (wa.toInt < 0 ∨ 3 < wa.toInt) := by omega
          rcases sw_31 with sw_31 | sw_31 | sw_31 | sw_31 | sw_31
          · skip
            refine lv_tableIn (tgt := 100) hC.x hC.b dX10_as_70 (by omega) (by omega) (by rw [sw_31]; rfl) (by decide) ?_
            refine lv_aload_n hC.x hC.b dX10_as_100 rfl (lv_at hl 1 rfl) ?_
            refine rget hC hK hR (ct_model G _ _) rfl uin_X10 18 (by decide) TF_X10_65 rfl dX10_as_101 ?_
            refine lv_iload hC.x hC.b dX10_as_104 (lv_at hl 0 rfl) ?_
            refine ald hC hK hR (ct_m_xs G _ _) (nI_T _ (by omega)) (by omega) (by omega) (Int.toNat_natCast _) dX10_as_106 ?_
            exact reti hC hK hR hS ⟨rfl, (trivial)⟩ dX10_as_107
          · skip
            refine lv_tableIn (tgt := 108) hC.x hC.b dX10_as_70 (by omega) (by omega) (by rw [sw_31]; rfl) (by decide) ?_
            refine lv_aload_n hC.x hC.b dX10_as_108 rfl (lv_at hl 1 rfl) ?_
            refine rget hC hK hR (ct_model G _ _) rfl uin_X10 17 (by decide) TF_X10_62 rfl dX10_as_109 ?_
            refine lv_iload hC.x hC.b dX10_as_112 (lv_at hl 0 rfl) ?_
            refine zald hC hK hR (ct_m_hasF G _ _) (nI_T _ (by omega)) (by omega) (by omega) (Int.toNat_natCast _) dX10_as_114 ?_
            refine bz_eq (tgt := 128) (a := (σ 53 (24 * hq + q)).toInt) (b := 0) hC.x hC.b rfl rfl dX10_as_115 (by decide) (fun c_32 => ?_) (fun c_32 => ?_)
            · skip
              refine lv_ldc hC.x hC.b hC.ow (hC.ts _ TK_X10_203) dX10_as_128 ?_
              exact reti hC hK hR hS ⟨rfl, (trivial)⟩ dX10_as_130
            · skip
              refine lv_aload_n hC.x hC.b dX10_as_118 rfl (lv_at hl 1 rfl) ?_
              refine rget hC hK hR (ct_model G _ _) rfl uin_X10 19 (by decide) TF_X10_68 rfl dX10_as_119 ?_
              refine lv_iload hC.x hC.b dX10_as_122 (lv_at hl 0 rfl) ?_
              refine ald hC hK hR (ct_m_fs G _ _) (nI_T _ (by omega)) (by omega) (by omega) (Int.toNat_natCast _) dX10_as_124 ?_
              refine lv_goto (tgt := 130) hC.x hC.b dX10_as_125 (by decide) ?_
              exact reti hC hK hR hS ⟨rfl, (trivial)⟩ dX10_as_130
          · skip
            refine lv_tableIn (tgt := 131) hC.x hC.b dX10_as_70 (by omega) (by omega) (by rw [sw_31]; rfl) (by decide) ?_
            refine lv_aload_n hC.x hC.b dX10_as_131 rfl (lv_at hl 1 rfl) ?_
            refine rget hC hK hR (ct_model G _ _) rfl uin_X10 17 (by decide) TF_X10_62 rfl dX10_as_132 ?_
            refine lv_iload hC.x hC.b dX10_as_135 (lv_at hl 0 rfl) ?_
            refine zald hC hK hR (ct_m_hasF G _ _) (nI_T _ (by omega)) (by omega) (by omega) (Int.toNat_natCast _) dX10_as_137 ?_
            refine bz_eq (tgt := 151) (a := (σ 53 (24 * hq + q)).toInt) (b := 0) hC.x hC.b rfl rfl dX10_as_138 (by decide) (fun c_33 => ?_) (fun c_33 => ?_)
            · skip
              refine lv_ldc hC.x hC.b hC.ow (hC.ts _ TK_X10_203) dX10_as_151 ?_
              exact reti hC hK hR hS ⟨rfl, (trivial)⟩ dX10_as_153
            · skip
              refine lv_aload_n hC.x hC.b dX10_as_141 rfl (lv_at hl 1 rfl) ?_
              refine rget hC hK hR (ct_model G _ _) rfl uin_X10 20 (by decide) TF_X10_71 rfl dX10_as_142 ?_
              refine lv_iload hC.x hC.b dX10_as_145 (lv_at hl 0 rfl) ?_
              refine ald hC hK hR (ct_m_ms G _ _) (nI_T _ (by omega)) (by omega) (by omega) (Int.toNat_natCast _) dX10_as_147 ?_
              refine lv_goto (tgt := 153) hC.x hC.b dX10_as_148 (by decide) ?_
              exact reti hC hK hR hS ⟨rfl, (trivial)⟩ dX10_as_153
          · skip
            refine lv_tableIn (tgt := 154) hC.x hC.b dX10_as_70 (by omega) (by omega) (by rw [sw_31]; rfl) (by decide) ?_
            refine lv_aload_n hC.x hC.b dX10_as_154 rfl (lv_at hl 1 rfl) ?_
            refine rget hC hK hR (ct_model G _ _) rfl uin_X10 21 (by decide) TF_X10_74 rfl dX10_as_155 ?_
            refine lv_iload hC.x hC.b dX10_as_158 (lv_at hl 0 rfl) ?_
            refine ald hC hK hR (ct_m_ws G _ _) (nI_T _ (by omega)) (by omega) (by omega) (Int.toNat_natCast _) dX10_as_160 ?_
            exact reti hC hK hR hS ⟨rfl, (trivial)⟩ dX10_as_161
          · skip
            refine lv_tableOut (tgt := 162) hC.x hC.b dX10_as_70 (by omega) (by decide) ?_
            refine lv_aload_n hC.x hC.b dX10_as_162 rfl (lv_at hl 1 rfl) ?_
            refine rget hC hK hR (ct_model G _ _) rfl uin_X10 22 (by decide) TF_X10_77 rfl dX10_as_163 ?_
            refine lv_iload hC.x hC.b dX10_as_166 (lv_at hl 0 rfl) ?_
            refine ald hC hK hR (ct_m_ds G _ _) (nI_T _ (by omega)) (by omega) (by omega) (Int.toNat_natCast _) dX10_as_168 ?_
            exact reti hC hK hR hS ⟨rfl, (trivial)⟩ dX10_as_169
        · skip
          refine lv_iload_n hC.x hC.b dX10_as_49 rfl (lv_at hl 3 rfl) ?_
          refine lv_iconst (v := 3) hC.x hC.b dX10_as_50 (by decide) ?_
          refine bi_ne (tgt := 58) (a := wa.toInt) (b := 3) hC.x hC.b rfl rfl dX10_as_51 (by decide) (fun c_34 => ?_) (fun c_34 => ?_)
          · skip
            refine lv_ldc hC.x hC.b hC.ow (hC.ts _ TK_X10_203) dX10_as_58 ?_
            exact reti hC hK hR hS ⟨rfl, (trivial)⟩ dX10_as_60
          · skip
            refine lv_iconst (v := 0) hC.x hC.b dX10_as_54 (by decide) ?_
            refine lv_goto (tgt := 60) hC.x hC.b dX10_as_55 (by decide) ?_
            exact reti hC hK hR hS ⟨rfl, (trivial)⟩ dX10_as_60
      · skip
        refine bz_eq (tgt := 49) (a := 0) (b := 0) hC.x hC.b rfl rfl dX10_as_32 (by decide) (fun _ => ?_) (fun c_35 => absurd c_35 (by decide))
        refine lv_iload_n hC.x hC.b dX10_as_49 rfl (lv_at hl 3 rfl) ?_
        refine lv_iconst (v := 3) hC.x hC.b dX10_as_50 (by decide) ?_
        refine bi_ne (tgt := 58) (a := wa.toInt) (b := 3) hC.x hC.b rfl rfl dX10_as_51 (by decide) (fun c_36 => ?_) (fun c_36 => ?_)
        · skip
          refine lv_ldc hC.x hC.b hC.ow (hC.ts _ TK_X10_203) dX10_as_58 ?_
          exact reti hC hK hR hS ⟨rfl, (trivial)⟩ dX10_as_60
        · skip
          refine lv_iconst (v := 0) hC.x hC.b dX10_as_54 (by decide) ?_
          refine lv_goto (tgt := 60) hC.x hC.b dX10_as_55 (by decide) ?_
          exact reti hC hK hR hS ⟨rfl, (trivial)⟩ dX10_as_60
    · skip
      refine bz_eq (tgt := 49) (a := 0) (b := 0) hC.x hC.b rfl rfl dX10_as_18 (by decide) (fun _ => ?_) (fun c_37 => absurd c_37 (by decide))
      refine lv_iload_n hC.x hC.b dX10_as_49 rfl (lv_at hl 3 rfl) ?_
      refine lv_iconst (v := 3) hC.x hC.b dX10_as_50 (by decide) ?_
      refine bi_ne (tgt := 58) (a := wa.toInt) (b := 3) hC.x hC.b rfl rfl dX10_as_51 (by decide) (fun c_38 => ?_) (fun c_38 => ?_)
      · skip
        refine lv_ldc hC.x hC.b hC.ow (hC.ts _ TK_X10_203) dX10_as_58 ?_
        exact reti hC hK hR hS ⟨rfl, (trivial)⟩ dX10_as_60
      · skip
        refine lv_iconst (v := 0) hC.x hC.b dX10_as_54 (by decide) ?_
        refine lv_goto (tgt := 60) hC.x hC.b dX10_as_55 (by decide) ?_
        exact reti hC hK hR hS ⟨rfl, (trivial)⟩ dX10_as_60
  · skip
    refine bz_ne (tgt := 11) (a := 0) (b := 0) hC.x hC.b rfl rfl dX10_as_6 (by decide) (fun c_39 => absurd c_39 (by decide)) (fun _ => ?_)
    refine lv_iconst (v := (-1)) hC.x hC.b dX10_as_9 (by decide) ?_
    exact reti hC hK hR hS ⟨rfl, (trivial)⟩ dX10_as_10

abbrev po_X10_take (σ : SI) (τ : SL) (pl : Int32) (q : Nat) : Int32 → SI × SL → Prop := fun v u => ((v = (-1)) ∧ (u.1 = σ) ∧ (u.2 = τ) ∧ (¬ (0 ≤ pl.toInt ∧ pl.toInt < 24) ∨ (σ 36 q).toInt = -1)) ∨ ((v = (-2)) ∧ (u.1 = σ) ∧ (u.2 = τ) ∧ (0 ≤ pl.toInt ∧ pl.toInt < 24) ∧ ((σ 36 q).toInt ≠ -1) ∧ (¬ (0 ≤ (σ 36 q).toInt ∧ (σ 36 q).toInt ≤ 3))) ∨ ((v = (1)) ∧ (u.1 = (up2 (up2 (up2 (up2 σ 39 q 1) 43 q (σ 35 29)) 41 q 0) 44 q (-9))) ∧ (u.2 = τ) ∧ (0 ≤ pl.toInt ∧ pl.toInt < 24) ∧ (0 ≤ (σ 36 q).toInt ∧ (σ 36 q).toInt ≤ 3))
set_option maxRecDepth 100000 in
set_option maxHeartbeats 4000000 in
theorem c_X10_take (l : Launch) {G : Gx} {A : Nat → Prop} (hG : GOk G A) (σ : SI) (τ : SL) (pl : Int32) (q : Nat) (hp_q : pl.toInt.toNat = q) : MI l G A 2 yX10_take cX10_take 3 (some .int) [.ref (G.2.1 35), .int pl] (σ, τ) (po_X10_take σ τ pl q) := by
  refine met_of (own := RX10) (by decide +kernel) rfl [(0, .ref (G.2.1 35)), (1, .int pl)] rfl (Nat.le_of_ble_eq_true rfl) ?_
  intro p e s m args below meth c ls hC hK hR hl
  have hS : va_S A s.heap s.heap [] := va_S.rf
  refine lv_aload_n hC.x hC.b dX10_take_0 rfl (lv_at hl 0 rfl) ?_
  refine lv_iload_n hC.x hC.b dX10_take_1 rfl (lv_at hl 1 rfl) ?_
  refine lv_iconst (v := 0) hC.x hC.b dX10_take_2 (by decide) ?_
  refine lv_iconst (v := 3) hC.x hC.b dX10_take_3 (by decide) ?_
  have av_1 : (0 : Int32).toInt = 0 := by decide
  have av_2 : (3 : Int32).toInt = 3 := by decide
  refine goip (runV (As := [.int pl, .int (0 : Int32), .int (3 : Int32)]) (rest := []) hC hK hR hl.1 (c_X10_fails l hG σ τ pl q (by first | rfl | (rw [show pl.toInt = pl.toInt from rfl]; done) | (rw [show pl.toInt = pl.toInt from rfl]; exact hp_q)) (0 : Int32) (3 : Int32) ) (call_b hC.ts TC_X10_fails TN_X10 TM_X10_144 hd_X10_fails ⟨Nat.le_of_ble_eq_true rfl, Nat.le_of_ble_eq_true rfl⟩) TI_X10_fails TS_X10_fails (ct_model G _ _) rfl rfl rfl (Nat.le_of_ble_eq_true rfl) dX10_take_4 ⟨Nat.le_of_ble_eq_true rfl, Nat.le_of_ble_eq_true rfl⟩) hS (fun v_3 H locs w_4 hR hS => ?_)
  rcases w_4 with ⟨rfl, f_5⟩ | ⟨rfl, f_6, f_7, f_8⟩ | ⟨rfl, f_9, f_10, f_11⟩
  · skip
    refine lv_istore_n (lv' := [(2, .int (-1 : Int32)), (0, .ref (G.2.1 35)), (1, .int pl)]) hC.x hC.b dX10_take_7 rfl hl (by decide) rfl (fun ls hl => ?_)
    refine lv_iload_n hC.x hC.b dX10_take_8 rfl (lv_at hl 0 rfl) ?_
    refine bz_eq (tgt := 14) (a := (-1)) (b := 0) hC.x hC.b rfl rfl dX10_take_9 (by decide) (fun c_12 => absurd c_12 (by decide)) (fun _ => ?_)
    refine lv_iload_n hC.x hC.b dX10_take_12 rfl (lv_at hl 0 rfl) ?_
    exact reti hC hK hR hS (by first | exact Or.inl (⟨by first | rfl | omega, by first | rfl | assumption, by rfl, by first | omega | assumption⟩) | exact False.elim (by omega)) dX10_take_13
  · skip
    refine lv_istore_n (lv' := [(2, .int (0 : Int32)), (0, .ref (G.2.1 35)), (1, .int pl)]) hC.x hC.b dX10_take_7 rfl hl (by decide) rfl (fun ls hl => ?_)
    refine lv_iload_n hC.x hC.b dX10_take_8 rfl (lv_at hl 0 rfl) ?_
    refine bz_eq (tgt := 14) (a := 0) (b := 0) hC.x hC.b rfl rfl dX10_take_9 (by decide) (fun _ => ?_) (fun c_13 => absurd c_13 (by decide))
    refine lv_aload_n hC.x hC.b dX10_take_14 rfl (lv_at hl 1 rfl) ?_
    refine rget hC hK hR (ct_model G _ _) rfl uin_X10 3 (by decide) TF_X10_19 rfl dX10_take_15 ?_
    refine lv_iload_n hC.x hC.b dX10_take_18 rfl (lv_at hl 2 rfl) ?_
    refine lv_iconst (v := 1) hC.x hC.b dX10_take_19 (by decide) ?_
    refine zast hC hK hG hR hS (fun _ => ct_m_taken G _ _) rfl (by omega) (by omega) hp_q (Or.inr rfl) dX10_take_20 (fun s_14 es_15 H locs hR hS => ?_)
    refine lv_aload_n hC.x hC.b dX10_take_21 rfl (lv_at hl 1 rfl) ?_
    refine rget hC hK hR (ct_model G _ _) rfl uin_X10 7 (by decide) TF_X10_32 rfl dX10_take_22 ?_
    refine lv_iload_n hC.x hC.b dX10_take_25 rfl (lv_at hl 2 rfl) ?_
    refine lv_aload_n hC.x hC.b dX10_take_26 rfl (lv_at hl 1 rfl) ?_
    refine rget hC hK hR (ct_model G _ _) rfl uin_X10 29 (by decide) TF_X10_137 rfl dX10_take_27 ?_
    have rd_16 : (s_14 35 29).toInt = (σ 35 29).toInt := congrArg Int32.toInt (show s_14 35 29 = σ 35 29 from (by rw [es_15]; exact up2_o (by omega)))
    refine ast hC hK hG hR hS (fun _ => ct_m_since G _ _) rfl (by omega) (by omega) hp_q dX10_take_30 (fun s_17 es_18 H locs hR hS => ?_)
    refine lv_aload_n hC.x hC.b dX10_take_31 rfl (lv_at hl 1 rfl) ?_
    refine rget hC hK hR (ct_model G _ _) rfl uin_X10 5 (by decide) TF_X10_26 rfl dX10_take_32 ?_
    refine lv_iload_n hC.x hC.b dX10_take_35 rfl (lv_at hl 2 rfl) ?_
    refine lv_iconst (v := 0) hC.x hC.b dX10_take_36 (by decide) ?_
    refine zast hC hK hG hR hS (fun _ => ct_m_isOut G _ _) rfl (by omega) (by omega) hp_q (Or.inl rfl) dX10_take_37 (fun s_19 es_20 H locs hR hS => ?_)
    refine lv_aload_n hC.x hC.b dX10_take_38 rfl (lv_at hl 1 rfl) ?_
    refine rget hC hK hR (ct_model G _ _) rfl uin_X10 8 (by decide) TF_X10_35 rfl dX10_take_39 ?_
    refine lv_iload_n hC.x hC.b dX10_take_42 rfl (lv_at hl 2 rfl) ?_
    refine lv_bipush (v := (-9)) hC.x hC.b dX10_take_43 (by decide) ?_
    refine ast hC hK hG hR hS (fun _ => ct_m_suspect G _ _) rfl (by omega) (by omega) hp_q dX10_take_45 (fun s_21 es_22 H locs hR hS => ?_)
    refine lv_iconst (v := 1) hC.x hC.b dX10_take_46 (by decide) ?_
    exact reti hC hK hR hS (by first | exact Or.inr (Or.inr ((⟨by subst es_22; subst es_20; subst es_18; subst es_15; (first | rfl | omega), by subst es_22; subst es_20; subst es_18; subst es_15; (first | rfl | assumption), by subst es_22; subst es_20; subst es_18; subst es_15; (rfl), by subst es_22; subst es_20; subst es_18; subst es_15; (first | omega | assumption), by subst es_22; subst es_20; subst es_18; subst es_15; (first | omega | assumption)⟩))) | exact False.elim (by omega)) dX10_take_47
  · skip
    refine lv_istore_n (lv' := [(2, .int (-2 : Int32)), (0, .ref (G.2.1 35)), (1, .int pl)]) hC.x hC.b dX10_take_7 rfl hl (by decide) rfl (fun ls hl => ?_)
    refine lv_iload_n hC.x hC.b dX10_take_8 rfl (lv_at hl 0 rfl) ?_
    refine bz_eq (tgt := 14) (a := (-2)) (b := 0) hC.x hC.b rfl rfl dX10_take_9 (by decide) (fun c_23 => absurd c_23 (by decide)) (fun _ => ?_)
    refine lv_iload_n hC.x hC.b dX10_take_12 rfl (lv_at hl 0 rfl) ?_
    exact reti hC hK hR hS (by first | exact Or.inr (Or.inl (⟨by first | rfl | omega, by first | rfl | assumption, by rfl, by first | omega | assumption, by first | omega | assumption, by first | omega | assumption⟩)) | exact False.elim (by omega)) dX10_take_13

abbrev po_X10_leave (σ : SI) (τ : SL) (pl : Int32) (q : Nat) : Int32 → SI × SL → Prop := fun v u => ((v = (-1)) ∧ (u.1 = σ) ∧ (u.2 = τ) ∧ (¬ (0 ≤ pl.toInt ∧ pl.toInt < 24) ∨ (σ 36 q).toInt = -1)) ∨ ((v = (-2)) ∧ (u.1 = σ) ∧ (u.2 = τ) ∧ (0 ≤ pl.toInt ∧ pl.toInt < 24) ∧ ((σ 36 q).toInt ≠ -1) ∧ (¬ (0 ≤ (σ 36 q).toInt ∧ (σ 36 q).toInt ≤ 3))) ∨ ((v = (1)) ∧ (u.1 = up2 σ 39 q 0) ∧ (u.2 = τ) ∧ (0 ≤ pl.toInt ∧ pl.toInt < 24) ∧ (0 ≤ (σ 36 q).toInt ∧ (σ 36 q).toInt ≤ 3) ∧ ((σ 39 q).toInt ≠ 0)) ∨ ((v = (0)) ∧ (u.1 = up2 σ 39 q 0) ∧ (u.2 = τ) ∧ (0 ≤ pl.toInt ∧ pl.toInt < 24) ∧ (0 ≤ (σ 36 q).toInt ∧ (σ 36 q).toInt ≤ 3) ∧ ((σ 39 q).toInt = 0))
set_option maxRecDepth 100000 in
set_option maxHeartbeats 4000000 in
theorem c_X10_leave (l : Launch) {G : Gx} {A : Nat → Prop} (hG : GOk G A) (σ : SI) (τ : SL) (pl : Int32) (q : Nat) (hp_q : pl.toInt.toNat = q) : MI l G A 2 yX10_leave cX10_leave 4 (some .int) [.ref (G.2.1 35), .int pl] (σ, τ) (po_X10_leave σ τ pl q) := by
  refine met_of (own := RX10) (by decide +kernel) rfl [(0, .ref (G.2.1 35)), (1, .int pl)] rfl (Nat.le_of_ble_eq_true rfl) ?_
  intro p e s m args below meth c ls hC hK hR hl
  have hS : va_S A s.heap s.heap [] := va_S.rf
  refine lv_aload_n hC.x hC.b dX10_leave_0 rfl (lv_at hl 0 rfl) ?_
  refine lv_iload_n hC.x hC.b dX10_leave_1 rfl (lv_at hl 1 rfl) ?_
  refine lv_iconst (v := 0) hC.x hC.b dX10_leave_2 (by decide) ?_
  refine lv_iconst (v := 3) hC.x hC.b dX10_leave_3 (by decide) ?_
  have av_1 : (0 : Int32).toInt = 0 := by decide
  have av_2 : (3 : Int32).toInt = 3 := by decide
  refine goip (runV (As := [.int pl, .int (0 : Int32), .int (3 : Int32)]) (rest := []) hC hK hR hl.1 (c_X10_fails l hG σ τ pl q (by first | rfl | (rw [show pl.toInt = pl.toInt from rfl]; done) | (rw [show pl.toInt = pl.toInt from rfl]; exact hp_q)) (0 : Int32) (3 : Int32) ) (call_b hC.ts TC_X10_fails TN_X10 TM_X10_144 hd_X10_fails ⟨Nat.le_of_ble_eq_true rfl, Nat.le_of_ble_eq_true rfl⟩) TI_X10_fails TS_X10_fails (ct_model G _ _) rfl rfl rfl (Nat.le_of_ble_eq_true rfl) dX10_leave_4 ⟨Nat.le_of_ble_eq_true rfl, Nat.le_of_ble_eq_true rfl⟩) hS (fun v_3 H locs w_4 hR hS => ?_)
  rcases w_4 with ⟨rfl, f_5⟩ | ⟨rfl, f_6, f_7, f_8⟩ | ⟨rfl, f_9, f_10, f_11⟩
  · skip
    refine lv_istore_n (lv' := [(2, .int (-1 : Int32)), (0, .ref (G.2.1 35)), (1, .int pl)]) hC.x hC.b dX10_leave_7 rfl hl (by decide) rfl (fun ls hl => ?_)
    refine lv_iload_n hC.x hC.b dX10_leave_8 rfl (lv_at hl 0 rfl) ?_
    refine bz_eq (tgt := 14) (a := (-1)) (b := 0) hC.x hC.b rfl rfl dX10_leave_9 (by decide) (fun c_12 => absurd c_12 (by decide)) (fun _ => ?_)
    refine lv_iload_n hC.x hC.b dX10_leave_12 rfl (lv_at hl 0 rfl) ?_
    exact reti hC hK hR hS (by first | exact Or.inl (⟨by first | rfl | omega, by first | rfl | assumption, by rfl, by first | omega | assumption⟩) | exact False.elim (by omega)) dX10_leave_13
  · skip
    refine lv_istore_n (lv' := [(2, .int (0 : Int32)), (0, .ref (G.2.1 35)), (1, .int pl)]) hC.x hC.b dX10_leave_7 rfl hl (by decide) rfl (fun ls hl => ?_)
    refine lv_iload_n hC.x hC.b dX10_leave_8 rfl (lv_at hl 0 rfl) ?_
    refine bz_eq (tgt := 14) (a := 0) (b := 0) hC.x hC.b rfl rfl dX10_leave_9 (by decide) (fun _ => ?_) (fun c_13 => absurd c_13 (by decide))
    refine lv_aload_n hC.x hC.b dX10_leave_14 rfl (lv_at hl 1 rfl) ?_
    refine rget hC hK hR (ct_model G _ _) rfl uin_X10 3 (by decide) TF_X10_19 rfl dX10_leave_15 ?_
    refine lv_iload_n hC.x hC.b dX10_leave_18 rfl (lv_at hl 2 rfl) ?_
    refine zald hC hK hR (ct_m_taken G _ _) rfl (by omega) (by omega) hp_q dX10_leave_19 ?_
    refine bz_eq (tgt := 27) (a := (σ 39 q).toInt) (b := 0) hC.x hC.b rfl rfl dX10_leave_20 (by decide) (fun c_14 => ?_) (fun c_14 => ?_)
    · skip
      refine lv_iconst (v := 0) hC.x hC.b dX10_leave_27 (by decide) ?_
      refine lv_istore_n (lv' := [(3, .int (0 : Int32)), (2, .int (0 : Int32)), (0, .ref (G.2.1 35)), (1, .int pl)]) hC.x hC.b dX10_leave_28 rfl hl (by decide) rfl (fun ls hl => ?_)
      refine lv_aload_n hC.x hC.b dX10_leave_29 rfl (lv_at hl 2 rfl) ?_
      refine rget hC hK hR (ct_model G _ _) rfl uin_X10 3 (by decide) TF_X10_19 rfl dX10_leave_30 ?_
      refine lv_iload_n hC.x hC.b dX10_leave_33 rfl (lv_at hl 3 rfl) ?_
      refine lv_iconst (v := 0) hC.x hC.b dX10_leave_34 (by decide) ?_
      refine zast hC hK hG hR hS (fun _ => ct_m_taken G _ _) rfl (by omega) (by omega) hp_q (Or.inl rfl) dX10_leave_35 (fun s_15 es_16 H locs hR hS => ?_)
      refine lv_iload_n hC.x hC.b dX10_leave_36 rfl (lv_at hl 0 rfl) ?_
      exact reti hC hK hR hS (by first | exact Or.inr (Or.inr (Or.inr ((⟨by subst es_16; (first | rfl | omega), by subst es_16; (first | rfl | assumption), by subst es_16; (rfl), by subst es_16; (first | omega | assumption), by subst es_16; (first | omega | assumption), by subst es_16; (first | omega | assumption)⟩)))) | exact False.elim (by omega)) dX10_leave_37
    · skip
      refine lv_iconst (v := 1) hC.x hC.b dX10_leave_23 (by decide) ?_
      refine lv_goto (tgt := 28) hC.x hC.b dX10_leave_24 (by decide) ?_
      refine lv_istore_n (lv' := [(3, .int (1 : Int32)), (2, .int (0 : Int32)), (0, .ref (G.2.1 35)), (1, .int pl)]) hC.x hC.b dX10_leave_28 rfl hl (by decide) rfl (fun ls hl => ?_)
      refine lv_aload_n hC.x hC.b dX10_leave_29 rfl (lv_at hl 2 rfl) ?_
      refine rget hC hK hR (ct_model G _ _) rfl uin_X10 3 (by decide) TF_X10_19 rfl dX10_leave_30 ?_
      refine lv_iload_n hC.x hC.b dX10_leave_33 rfl (lv_at hl 3 rfl) ?_
      refine lv_iconst (v := 0) hC.x hC.b dX10_leave_34 (by decide) ?_
      refine zast hC hK hG hR hS (fun _ => ct_m_taken G _ _) rfl (by omega) (by omega) hp_q (Or.inl rfl) dX10_leave_35 (fun s_17 es_18 H locs hR hS => ?_)
      refine lv_iload_n hC.x hC.b dX10_leave_36 rfl (lv_at hl 0 rfl) ?_
      exact reti hC hK hR hS (by first | exact Or.inr (Or.inr (Or.inl (⟨by subst es_18; (first | rfl | omega), by subst es_18; (first | rfl | assumption), by subst es_18; (rfl), by subst es_18; (first | omega | assumption), by subst es_18; (first | omega | assumption), by subst es_18; (first | omega | assumption)⟩))) | exact False.elim (by omega)) dX10_leave_37
  · skip
    refine lv_istore_n (lv' := [(2, .int (-2 : Int32)), (0, .ref (G.2.1 35)), (1, .int pl)]) hC.x hC.b dX10_leave_7 rfl hl (by decide) rfl (fun ls hl => ?_)
    refine lv_iload_n hC.x hC.b dX10_leave_8 rfl (lv_at hl 0 rfl) ?_
    refine bz_eq (tgt := 14) (a := (-2)) (b := 0) hC.x hC.b rfl rfl dX10_leave_9 (by decide) (fun c_19 => absurd c_19 (by decide)) (fun _ => ?_)
    refine lv_iload_n hC.x hC.b dX10_leave_12 rfl (lv_at hl 0 rfl) ?_
    exact reti hC hK hR hS (by first | exact Or.inr (Or.inl (⟨by first | rfl | omega, by first | rfl | assumption, by rfl, by first | omega | assumption, by first | omega | assumption, by first | omega | assumption⟩)) | exact False.elim (by omega)) dX10_leave_13

abbrev po_X10_call (σ : SI) (τ : SL) (pl : Int32) (q : Nat) (oa : Int32) : Int32 → SI × SL → Prop := fun v u => ((v = (-1)) ∧ (u.1 = σ) ∧ (u.2 = τ) ∧ (¬ (0 ≤ pl.toInt ∧ pl.toInt < 24) ∨ (σ 36 q).toInt = -1)) ∨ ((v = (-2)) ∧ (u.1 = σ) ∧ (u.2 = τ) ∧ (0 ≤ pl.toInt ∧ pl.toInt < 24) ∧ ((σ 36 q).toInt ≠ -1) ∧ (¬ ((σ 36 q).toInt = 3))) ∨ ((v = (1)) ∧ (u.1 = up2 σ 40 q oa) ∧ (u.2 = τ) ∧ (0 ≤ pl.toInt ∧ pl.toInt < 24) ∧ ((σ 36 q).toInt = 3))
set_option maxRecDepth 100000 in
set_option maxHeartbeats 4000000 in
theorem c_X10_call (l : Launch) {G : Gx} {A : Nat → Prop} (hG : GOk G A) (σ : SI) (τ : SL) (pl : Int32) (q : Nat) (hp_q : pl.toInt.toNat = q) (oa : Int32) (hoa : oa = 0 ∨ oa = 1) : MI l G A 2 yX10_call cX10_call 4 (some .int) [.ref (G.2.1 35), .int pl, .int oa] (σ, τ) (po_X10_call σ τ pl q oa) := by
  refine met_of (own := RX10) (by decide +kernel) rfl [(0, .ref (G.2.1 35)), (1, .int pl), (2, .int oa)] rfl (Nat.le_of_ble_eq_true rfl) ?_
  intro p e s m args below meth c ls hC hK hR hl
  have hS : va_S A s.heap s.heap [] := va_S.rf
  refine lv_aload_n hC.x hC.b dX10_call_0 rfl (lv_at hl 0 rfl) ?_
  refine lv_iload_n hC.x hC.b dX10_call_1 rfl (lv_at hl 1 rfl) ?_
  refine lv_iconst (v := 3) hC.x hC.b dX10_call_2 (by decide) ?_
  refine lv_iconst (v := 3) hC.x hC.b dX10_call_3 (by decide) ?_
  have av_1 : (3 : Int32).toInt = 3 := by decide
  have av_2 : (3 : Int32).toInt = 3 := by decide
  refine goip (runV (As := [.int pl, .int (3 : Int32), .int (3 : Int32)]) (rest := []) hC hK hR hl.1 (c_X10_fails l hG σ τ pl q (by first | rfl | (rw [show pl.toInt = pl.toInt from rfl]; done) | (rw [show pl.toInt = pl.toInt from rfl]; exact hp_q)) (3 : Int32) (3 : Int32) ) (call_b hC.ts TC_X10_fails TN_X10 TM_X10_144 hd_X10_fails ⟨Nat.le_of_ble_eq_true rfl, Nat.le_of_ble_eq_true rfl⟩) TI_X10_fails TS_X10_fails (ct_model G _ _) rfl rfl rfl (Nat.le_of_ble_eq_true rfl) dX10_call_4 ⟨Nat.le_of_ble_eq_true rfl, Nat.le_of_ble_eq_true rfl⟩) hS (fun v_3 H locs w_4 hR hS => ?_)
  rcases w_4 with ⟨rfl, f_5⟩ | ⟨rfl, f_6, f_7, f_8⟩ | ⟨rfl, f_9, f_10, f_11⟩
  · skip
    refine lv_istore_n (lv' := [(3, .int (-1 : Int32)), (0, .ref (G.2.1 35)), (1, .int pl), (2, .int oa)]) hC.x hC.b dX10_call_7 rfl hl (by decide) rfl (fun ls hl => ?_)
    refine lv_iload_n hC.x hC.b dX10_call_8 rfl (lv_at hl 0 rfl) ?_
    refine bz_eq (tgt := 14) (a := (-1)) (b := 0) hC.x hC.b rfl rfl dX10_call_9 (by decide) (fun c_12 => absurd c_12 (by decide)) (fun _ => ?_)
    refine lv_iload_n hC.x hC.b dX10_call_12 rfl (lv_at hl 0 rfl) ?_
    exact reti hC hK hR hS (by first | exact Or.inl (⟨by first | rfl | omega, by first | rfl | assumption, by rfl, by first | omega | assumption⟩) | exact False.elim (by omega)) dX10_call_13
  · skip
    refine lv_istore_n (lv' := [(3, .int (0 : Int32)), (0, .ref (G.2.1 35)), (1, .int pl), (2, .int oa)]) hC.x hC.b dX10_call_7 rfl hl (by decide) rfl (fun ls hl => ?_)
    refine lv_iload_n hC.x hC.b dX10_call_8 rfl (lv_at hl 0 rfl) ?_
    refine bz_eq (tgt := 14) (a := 0) (b := 0) hC.x hC.b rfl rfl dX10_call_9 (by decide) (fun _ => ?_) (fun c_13 => absurd c_13 (by decide))
    refine lv_aload_n hC.x hC.b dX10_call_14 rfl (lv_at hl 1 rfl) ?_
    refine rget hC hK hR (ct_model G _ _) rfl uin_X10 4 (by decide) TF_X10_23 rfl dX10_call_15 ?_
    refine lv_iload_n hC.x hC.b dX10_call_18 rfl (lv_at hl 2 rfl) ?_
    refine lv_iload_n hC.x hC.b dX10_call_19 rfl (lv_at hl 3 rfl) ?_
    refine zast hC hK hG hR hS (fun _ => ct_m_called G _ _) rfl (by omega) (by omega) hp_q (by first | assumption | exact Or.inl rfl | exact Or.inr rfl) dX10_call_20 (fun s_14 es_15 H locs hR hS => ?_)
    refine lv_iconst (v := 1) hC.x hC.b dX10_call_21 (by decide) ?_
    exact reti hC hK hR hS (by first | exact Or.inr (Or.inr ((⟨by subst es_15; (first | rfl | omega), by subst es_15; (first | rfl | assumption), by subst es_15; (rfl), by subst es_15; (first | omega | assumption), by subst es_15; (first | omega | assumption)⟩))) | exact False.elim (by omega)) dX10_call_22
  · skip
    refine lv_istore_n (lv' := [(3, .int (-2 : Int32)), (0, .ref (G.2.1 35)), (1, .int pl), (2, .int oa)]) hC.x hC.b dX10_call_7 rfl hl (by decide) rfl (fun ls hl => ?_)
    refine lv_iload_n hC.x hC.b dX10_call_8 rfl (lv_at hl 0 rfl) ?_
    refine bz_eq (tgt := 14) (a := (-2)) (b := 0) hC.x hC.b rfl rfl dX10_call_9 (by decide) (fun c_16 => absurd c_16 (by decide)) (fun _ => ?_)
    refine lv_iload_n hC.x hC.b dX10_call_12 rfl (lv_at hl 0 rfl) ?_
    exact reti hC hK hR hS (by first | exact Or.inr (Or.inl (⟨by first | rfl | omega, by first | rfl | assumption, by rfl, by first | omega | assumption, by first | omega | assumption, by first | omega | assumption⟩)) | exact False.elim (by omega)) dX10_call_13

abbrev po_X10_steer (σ : SI) (τ : SL) (pl : Int32) (q : Nat) (xa : Int32) : Int32 → SI × SL → Prop := fun v u => ((v = (-1)) ∧ (u.1 = σ) ∧ (u.2 = τ) ∧ (¬ (0 ≤ pl.toInt ∧ pl.toInt < 24) ∨ (σ 36 q).toInt = -1)) ∨ ((v = (-2)) ∧ (u.1 = σ) ∧ (u.2 = τ) ∧ (0 ≤ pl.toInt ∧ pl.toInt < 24) ∧ ((σ 36 q).toInt ≠ -1) ∧ (¬ ((σ 36 q).toInt = 1 ∨ (σ 36 q).toInt = 3))) ∨ ((v = (1000000)) ∧ (u.1 = σ) ∧ (u.2 = τ) ∧ (0 ≤ pl.toInt ∧ pl.toInt < 24) ∧ ((σ 36 q).toInt = 1 ∨ (σ 36 q).toInt = 3) ∧ (¬ (-10000 ≤ xa.toInt ∧ xa.toInt ≤ 10000 ∧ -100000 ≤ (σ 42 q).toInt + xa.toInt ∧ (σ 42 q).toInt + xa.toInt ≤ 100000))) ∨ ((v = ((σ 42 q) + xa)) ∧ (u.1 = up2 σ 42 q ((σ 42 q) + xa)) ∧ (u.2 = τ) ∧ (0 ≤ pl.toInt ∧ pl.toInt < 24) ∧ ((σ 36 q).toInt = 1 ∨ (σ 36 q).toInt = 3) ∧ (-10000 ≤ xa.toInt ∧ xa.toInt ≤ 10000) ∧ (-100000 ≤ (σ 42 q).toInt + xa.toInt ∧ (σ 42 q).toInt + xa.toInt ≤ 100000))
set_option maxRecDepth 100000 in
set_option maxHeartbeats 4000000 in
theorem c_X10_steer (l : Launch) {G : Gx} {A : Nat → Prop} (hG : GOk G A) (σ : SI) (τ : SL) (pl : Int32) (q : Nat) (hp_q : pl.toInt.toNat = q) (xa : Int32) (hst : ∀ j, j < 24 → -100000 ≤ (σ 42 j).toInt ∧ (σ 42 j).toInt ≤ 100000) : MI l G A 2 yX10_steer cX10_steer 4 (some .int) [.ref (G.2.1 35), .int pl, .int xa] (σ, τ) (po_X10_steer σ τ pl q xa) := by
  refine met_of (own := RX10) (by decide +kernel) rfl [(0, .ref (G.2.1 35)), (1, .int pl), (2, .int xa)] rfl (Nat.le_of_ble_eq_true rfl) ?_
  intro p e s m args below meth c ls hC hK hR hl
  have hS : va_S A s.heap s.heap [] := va_S.rf
  refine lv_aload_n hC.x hC.b dX10_steer_0 rfl (lv_at hl 0 rfl) ?_
  refine lv_iload_n hC.x hC.b dX10_steer_1 rfl (lv_at hl 1 rfl) ?_
  refine lv_iconst (v := 0) hC.x hC.b dX10_steer_2 (by decide) ?_
  refine lv_iconst (v := 3) hC.x hC.b dX10_steer_3 (by decide) ?_
  have av_1 : (0 : Int32).toInt = 0 := by decide
  have av_2 : (3 : Int32).toInt = 3 := by decide
  refine goip (runV (As := [.int pl, .int (0 : Int32), .int (3 : Int32)]) (rest := []) hC hK hR hl.1 (c_X10_fails l hG σ τ pl q (by first | rfl | (rw [show pl.toInt = pl.toInt from rfl]; done) | (rw [show pl.toInt = pl.toInt from rfl]; exact hp_q)) (0 : Int32) (3 : Int32) ) (call_b hC.ts TC_X10_fails TN_X10 TM_X10_144 hd_X10_fails ⟨Nat.le_of_ble_eq_true rfl, Nat.le_of_ble_eq_true rfl⟩) TI_X10_fails TS_X10_fails (ct_model G _ _) rfl rfl rfl (Nat.le_of_ble_eq_true rfl) dX10_steer_4 ⟨Nat.le_of_ble_eq_true rfl, Nat.le_of_ble_eq_true rfl⟩) hS (fun v_3 H locs w_4 hR hS => ?_)
  rcases w_4 with ⟨rfl, f_5⟩ | ⟨rfl, f_6, f_7, f_8⟩ | ⟨rfl, f_9, f_10, f_11⟩
  · skip
    refine lv_istore_n (lv' := [(3, .int (-1 : Int32)), (0, .ref (G.2.1 35)), (1, .int pl), (2, .int xa)]) hC.x hC.b dX10_steer_7 rfl hl (by decide) rfl (fun ls hl => ?_)
    refine lv_iload_n hC.x hC.b dX10_steer_8 rfl (lv_at hl 0 rfl) ?_
    refine bz_eq (tgt := 14) (a := (-1)) (b := 0) hC.x hC.b rfl rfl dX10_steer_9 (by decide) (fun c_12 => absurd c_12 (by decide)) (fun _ => ?_)
    refine lv_iload_n hC.x hC.b dX10_steer_12 rfl (lv_at hl 0 rfl) ?_
    exact reti hC hK hR hS (by first | exact Or.inl (⟨by first | rfl | exact up2_s, by first | rfl | assumption, by rfl, by first | omega | assumption⟩) | exact Or.inr (Or.inr (Or.inr ((⟨by first | rfl | exact up2_s, by first | rfl | assumption, by rfl, by first | omega | assumption, by first | omega | assumption, by first | omega | assumption, by first | omega | assumption⟩)))) | exact False.elim (by omega)) dX10_steer_13
  · skip
    refine lv_istore_n (lv' := [(3, .int (0 : Int32)), (0, .ref (G.2.1 35)), (1, .int pl), (2, .int xa)]) hC.x hC.b dX10_steer_7 rfl hl (by decide) rfl (fun ls hl => ?_)
    refine lv_iload_n hC.x hC.b dX10_steer_8 rfl (lv_at hl 0 rfl) ?_
    refine bz_eq (tgt := 14) (a := 0) (b := 0) hC.x hC.b rfl rfl dX10_steer_9 (by decide) (fun _ => ?_) (fun c_13 => absurd c_13 (by decide))
    have hsq := hst q (by omega)
    refine lv_aload_n hC.x hC.b dX10_steer_14 rfl (lv_at hl 1 rfl) ?_
    refine rget hC hK hR (ct_model G _ _) rfl uin_X10 0 (by decide) TF_X10_9 rfl dX10_steer_15 ?_
    refine lv_iload_n hC.x hC.b dX10_steer_18 rfl (lv_at hl 2 rfl) ?_
    refine ald hC hK hR (ct_m_kinds G _ _) rfl (by omega) (by omega) hp_q dX10_steer_19 ?_
    refine lv_iconst (v := 1) hC.x hC.b dX10_steer_20 (by decide) ?_
    refine bi_eq (tgt := 37) (a := (σ 36 q).toInt) (b := 1) hC.x hC.b rfl rfl dX10_steer_21 (by decide) (fun c_14 => ?_) (fun c_14 => ?_)
    · skip
      refine lv_iload_n hC.x hC.b dX10_steer_37 rfl (lv_at hl 3 rfl) ?_
      refine lv_sipush (v := (-10000)) hC.x hC.b dX10_steer_38 (by decide) ?_
      refine lv_sipush (v := 10000) hC.x hC.b dX10_steer_41 (by decide) ?_
      have av_15 : (-10000 : Int32).toInt = -10000 := by decide
      have av_16 : (10000 : Int32).toInt = 10000 := by decide
      refine goip (runS (As := [.int xa, .int (-10000 : Int32), .int (10000 : Int32)]) (rest := []) hC hK hR hl.1 (c_X10_isIn l hG σ τ xa (-10000 : Int32) (10000 : Int32) ) (call_b hC.ts TC_X10_isIn TN_X10 TM_X10_129 hd_X10_isIn ⟨Nat.le_of_ble_eq_true rfl, Nat.le_of_ble_eq_true rfl⟩) TT_X10_isIn rfl rfl (Nat.le_of_ble_eq_true rfl) dX10_steer_44 ⟨Nat.le_of_ble_eq_true rfl, Nat.le_of_ble_eq_true rfl⟩) hS (fun v_17 H locs w_18 hR hS => ?_)
      rcases w_18 with ⟨rfl, f_19, f_20⟩ | ⟨rfl, f_21⟩
      · skip
        refine bz_eq (tgt := 68) (a := 1) (b := 0) hC.x hC.b rfl rfl dX10_steer_47 (by decide) (fun c_22 => absurd c_22 (by decide)) (fun _ => ?_)
        refine lv_aload_n hC.x hC.b dX10_steer_50 rfl (lv_at hl 1 rfl) ?_
        refine rget hC hK hR (ct_model G _ _) rfl uin_X10 6 (by decide) TF_X10_29 rfl dX10_steer_51 ?_
        refine lv_iload_n hC.x hC.b dX10_steer_54 rfl (lv_at hl 2 rfl) ?_
        refine ald hC hK hR (ct_m_setting G _ _) rfl (by omega) (by omega) hp_q dX10_steer_55 ?_
        refine lv_iload_n hC.x hC.b dX10_steer_56 rfl (lv_at hl 3 rfl) ?_
        refine lv_iadd hC.x hC.b dX10_steer_57 ?_
        have pr_23 : ((σ 42 q) + xa).toInt = ((σ 42 q).toInt + xa.toInt) := addI rfl rfl (by omega) (by omega)
        refine lv_ldc hC.x hC.b hC.ow (hC.ts _ TK_X10_170) dX10_steer_58 ?_
        refine lv_ldc hC.x hC.b hC.ow (hC.ts _ TK_X10_171) dX10_steer_60 ?_
        have av_24 : ((σ 42 q) + xa).toInt = ((σ 42 q).toInt + xa.toInt) := pr_23
        have av_25 : (-100000 : Int32).toInt = -100000 := by decide
        have av_26 : (100000 : Int32).toInt = 100000 := by decide
        refine goip (runS (As := [.int ((σ 42 q) + xa), .int (-100000 : Int32), .int (100000 : Int32)]) (rest := []) hC hK hR hl.1 (c_X10_isIn l hG σ τ ((σ 42 q) + xa) (-100000 : Int32) (100000 : Int32) ) (call_b hC.ts TC_X10_isIn TN_X10 TM_X10_129 hd_X10_isIn ⟨Nat.le_of_ble_eq_true rfl, Nat.le_of_ble_eq_true rfl⟩) TT_X10_isIn rfl rfl (Nat.le_of_ble_eq_true rfl) dX10_steer_62 ⟨Nat.le_of_ble_eq_true rfl, Nat.le_of_ble_eq_true rfl⟩) hS (fun v_27 H locs w_28 hR hS => ?_)
        rcases w_28 with ⟨rfl, f_29, f_30⟩ | ⟨rfl, f_31⟩
        · skip
          refine bz_ne (tgt := 71) (a := 1) (b := 0) hC.x hC.b rfl rfl dX10_steer_65 (by decide) (fun _ => ?_) (fun c_32 => absurd c_32 (by decide))
          refine lv_aload_n hC.x hC.b dX10_steer_71 rfl (lv_at hl 1 rfl) ?_
          refine rget hC hK hR (ct_model G _ _) rfl uin_X10 6 (by decide) TF_X10_29 rfl dX10_steer_72 ?_
          refine lv_iload_n hC.x hC.b dX10_steer_75 rfl (lv_at hl 2 rfl) ?_
          refine lv_dup2_11 hC.x hC.b dX10_steer_76 rfl rfl ?_
          refine ald hC hK hR (ct_m_setting G _ _) rfl (by omega) (by omega) hp_q dX10_steer_77 ?_
          refine lv_iload_n hC.x hC.b dX10_steer_78 rfl (lv_at hl 3 rfl) ?_
          refine lv_iadd hC.x hC.b dX10_steer_79 ?_
          have pr_33 : ((σ 42 q) + xa).toInt = ((σ 42 q).toInt + xa.toInt) := addI rfl rfl (by omega) (by omega)
          refine ast hC hK hG hR hS (fun _ => ct_m_setting G _ _) rfl (by omega) (by omega) hp_q dX10_steer_80 (fun s_34 es_35 H locs hR hS => ?_)
          refine lv_aload_n hC.x hC.b dX10_steer_81 rfl (lv_at hl 1 rfl) ?_
          refine rget hC hK hR (ct_model G _ _) rfl uin_X10 6 (by decide) TF_X10_29 rfl dX10_steer_82 ?_
          refine lv_iload_n hC.x hC.b dX10_steer_85 rfl (lv_at hl 2 rfl) ?_
          refine ald hC hK hR (ct_m_setting G _ _) rfl (by omega) (by omega) hp_q dX10_steer_86 ?_
          have rd_36 : (s_34 42 q).toInt = ((σ 42 q) + xa).toInt := congrArg Int32.toInt (show s_34 42 q = ((σ 42 q) + xa) from (by rw [es_35]; exact up2_s))
          exact reti hC hK hR hS (by first | exact Or.inl (⟨by subst es_35; (first | rfl | exact up2_s), by subst es_35; (first | rfl | assumption), by subst es_35; (rfl), by subst es_35; (first | omega | assumption)⟩) | exact Or.inr (Or.inl (⟨by subst es_35; (first | rfl | exact up2_s), by subst es_35; (first | rfl | assumption), by subst es_35; (rfl), by subst es_35; (first | omega | assumption), by subst es_35; (first | omega | assumption), by subst es_35; (first | omega | assumption)⟩)) | exact Or.inr (Or.inr (Or.inl (⟨by subst es_35; (first | rfl | exact up2_s), by subst es_35; (first | rfl | assumption), by subst es_35; (rfl), by subst es_35; (first | omega | assumption), by subst es_35; (first | omega | assumption), by subst es_35; (first | omega | assumption)⟩))) | exact Or.inr (Or.inr (Or.inr ((⟨by subst es_35; (first | rfl | exact up2_s), by subst es_35; (first | rfl | assumption), by subst es_35; (rfl), by subst es_35; (first | omega | assumption), by subst es_35; (first | omega | assumption), by subst es_35; (first | omega | assumption), by subst es_35; (first | omega | assumption)⟩)))) | exact False.elim (by omega)) dX10_steer_87
        · skip
          refine bz_ne (tgt := 71) (a := 0) (b := 0) hC.x hC.b rfl rfl dX10_steer_65 (by decide) (fun c_37 => absurd c_37 (by decide)) (fun _ => ?_)
          refine lv_ldc hC.x hC.b hC.ow (hC.ts _ TK_X10_151) dX10_steer_68 ?_
          exact reti hC hK hR hS (by first | exact Or.inr (Or.inr (Or.inl (⟨by first | rfl | exact up2_s, by first | rfl | assumption, by rfl, by first | omega | assumption, by first | omega | assumption, by first | omega | assumption⟩))) | exact Or.inr (Or.inr (Or.inr ((⟨by first | rfl | exact up2_s, by first | rfl | assumption, by rfl, by first | omega | assumption, by first | omega | assumption, by first | omega | assumption, by first | omega | assumption⟩)))) | exact False.elim (by omega)) dX10_steer_70
      · skip
        refine bz_eq (tgt := 68) (a := 0) (b := 0) hC.x hC.b rfl rfl dX10_steer_47 (by decide) (fun _ => ?_) (fun c_38 => absurd c_38 (by decide))
        refine lv_ldc hC.x hC.b hC.ow (hC.ts _ TK_X10_151) dX10_steer_68 ?_
        exact reti hC hK hR hS (by first | exact Or.inr (Or.inr (Or.inl (⟨by first | rfl | exact up2_s, by first | rfl | assumption, by rfl, by first | omega | assumption, by first | omega | assumption, by first | omega | assumption⟩))) | exact Or.inr (Or.inr (Or.inr ((⟨by first | rfl | exact up2_s, by first | rfl | assumption, by rfl, by first | omega | assumption, by first | omega | assumption, by first | omega | assumption, by first | omega | assumption⟩)))) | exact False.elim (by omega)) dX10_steer_70
    · skip
      refine lv_aload_n hC.x hC.b dX10_steer_24 rfl (lv_at hl 1 rfl) ?_
      refine rget hC hK hR (ct_model G _ _) rfl uin_X10 0 (by decide) TF_X10_9 rfl dX10_steer_25 ?_
      refine lv_iload_n hC.x hC.b dX10_steer_28 rfl (lv_at hl 2 rfl) ?_
      refine ald hC hK hR (ct_m_kinds G _ _) rfl (by omega) (by omega) hp_q dX10_steer_29 ?_
      refine lv_iconst (v := 3) hC.x hC.b dX10_steer_30 (by decide) ?_
      refine bi_eq (tgt := 37) (a := (σ 36 q).toInt) (b := 3) hC.x hC.b rfl rfl dX10_steer_31 (by decide) (fun c_39 => ?_) (fun c_39 => ?_)
      · skip
        refine lv_iload_n hC.x hC.b dX10_steer_37 rfl (lv_at hl 3 rfl) ?_
        refine lv_sipush (v := (-10000)) hC.x hC.b dX10_steer_38 (by decide) ?_
        refine lv_sipush (v := 10000) hC.x hC.b dX10_steer_41 (by decide) ?_
        have av_40 : (-10000 : Int32).toInt = -10000 := by decide
        have av_41 : (10000 : Int32).toInt = 10000 := by decide
        refine goip (runS (As := [.int xa, .int (-10000 : Int32), .int (10000 : Int32)]) (rest := []) hC hK hR hl.1 (c_X10_isIn l hG σ τ xa (-10000 : Int32) (10000 : Int32) ) (call_b hC.ts TC_X10_isIn TN_X10 TM_X10_129 hd_X10_isIn ⟨Nat.le_of_ble_eq_true rfl, Nat.le_of_ble_eq_true rfl⟩) TT_X10_isIn rfl rfl (Nat.le_of_ble_eq_true rfl) dX10_steer_44 ⟨Nat.le_of_ble_eq_true rfl, Nat.le_of_ble_eq_true rfl⟩) hS (fun v_42 H locs w_43 hR hS => ?_)
        rcases w_43 with ⟨rfl, f_44, f_45⟩ | ⟨rfl, f_46⟩
        · skip
          refine bz_eq (tgt := 68) (a := 1) (b := 0) hC.x hC.b rfl rfl dX10_steer_47 (by decide) (fun c_47 => absurd c_47 (by decide)) (fun _ => ?_)
          refine lv_aload_n hC.x hC.b dX10_steer_50 rfl (lv_at hl 1 rfl) ?_
          refine rget hC hK hR (ct_model G _ _) rfl uin_X10 6 (by decide) TF_X10_29 rfl dX10_steer_51 ?_
          refine lv_iload_n hC.x hC.b dX10_steer_54 rfl (lv_at hl 2 rfl) ?_
          refine ald hC hK hR (ct_m_setting G _ _) rfl (by omega) (by omega) hp_q dX10_steer_55 ?_
          refine lv_iload_n hC.x hC.b dX10_steer_56 rfl (lv_at hl 3 rfl) ?_
          refine lv_iadd hC.x hC.b dX10_steer_57 ?_
          have pr_48 : ((σ 42 q) + xa).toInt = ((σ 42 q).toInt + xa.toInt) := addI rfl rfl (by omega) (by omega)
          refine lv_ldc hC.x hC.b hC.ow (hC.ts _ TK_X10_170) dX10_steer_58 ?_
          refine lv_ldc hC.x hC.b hC.ow (hC.ts _ TK_X10_171) dX10_steer_60 ?_
          have av_49 : ((σ 42 q) + xa).toInt = ((σ 42 q).toInt + xa.toInt) := pr_48
          have av_50 : (-100000 : Int32).toInt = -100000 := by decide
          have av_51 : (100000 : Int32).toInt = 100000 := by decide
          refine goip (runS (As := [.int ((σ 42 q) + xa), .int (-100000 : Int32), .int (100000 : Int32)]) (rest := []) hC hK hR hl.1 (c_X10_isIn l hG σ τ ((σ 42 q) + xa) (-100000 : Int32) (100000 : Int32) ) (call_b hC.ts TC_X10_isIn TN_X10 TM_X10_129 hd_X10_isIn ⟨Nat.le_of_ble_eq_true rfl, Nat.le_of_ble_eq_true rfl⟩) TT_X10_isIn rfl rfl (Nat.le_of_ble_eq_true rfl) dX10_steer_62 ⟨Nat.le_of_ble_eq_true rfl, Nat.le_of_ble_eq_true rfl⟩) hS (fun v_52 H locs w_53 hR hS => ?_)
          rcases w_53 with ⟨rfl, f_54, f_55⟩ | ⟨rfl, f_56⟩
          · skip
            refine bz_ne (tgt := 71) (a := 1) (b := 0) hC.x hC.b rfl rfl dX10_steer_65 (by decide) (fun _ => ?_) (fun c_57 => absurd c_57 (by decide))
            refine lv_aload_n hC.x hC.b dX10_steer_71 rfl (lv_at hl 1 rfl) ?_
            refine rget hC hK hR (ct_model G _ _) rfl uin_X10 6 (by decide) TF_X10_29 rfl dX10_steer_72 ?_
            refine lv_iload_n hC.x hC.b dX10_steer_75 rfl (lv_at hl 2 rfl) ?_
            refine lv_dup2_11 hC.x hC.b dX10_steer_76 rfl rfl ?_
            refine ald hC hK hR (ct_m_setting G _ _) rfl (by omega) (by omega) hp_q dX10_steer_77 ?_
            refine lv_iload_n hC.x hC.b dX10_steer_78 rfl (lv_at hl 3 rfl) ?_
            refine lv_iadd hC.x hC.b dX10_steer_79 ?_
            have pr_58 : ((σ 42 q) + xa).toInt = ((σ 42 q).toInt + xa.toInt) := addI rfl rfl (by omega) (by omega)
            refine ast hC hK hG hR hS (fun _ => ct_m_setting G _ _) rfl (by omega) (by omega) hp_q dX10_steer_80 (fun s_59 es_60 H locs hR hS => ?_)
            refine lv_aload_n hC.x hC.b dX10_steer_81 rfl (lv_at hl 1 rfl) ?_
            refine rget hC hK hR (ct_model G _ _) rfl uin_X10 6 (by decide) TF_X10_29 rfl dX10_steer_82 ?_
            refine lv_iload_n hC.x hC.b dX10_steer_85 rfl (lv_at hl 2 rfl) ?_
            refine ald hC hK hR (ct_m_setting G _ _) rfl (by omega) (by omega) hp_q dX10_steer_86 ?_
            have rd_61 : (s_59 42 q).toInt = ((σ 42 q) + xa).toInt := congrArg Int32.toInt (show s_59 42 q = ((σ 42 q) + xa) from (by rw [es_60]; exact up2_s))
            exact reti hC hK hR hS (by first | exact Or.inl (⟨by subst es_60; (first | rfl | exact up2_s), by subst es_60; (first | rfl | assumption), by subst es_60; (rfl), by subst es_60; (first | omega | assumption)⟩) | exact Or.inr (Or.inl (⟨by subst es_60; (first | rfl | exact up2_s), by subst es_60; (first | rfl | assumption), by subst es_60; (rfl), by subst es_60; (first | omega | assumption), by subst es_60; (first | omega | assumption), by subst es_60; (first | omega | assumption)⟩)) | exact Or.inr (Or.inr (Or.inl (⟨by subst es_60; (first | rfl | exact up2_s), by subst es_60; (first | rfl | assumption), by subst es_60; (rfl), by subst es_60; (first | omega | assumption), by subst es_60; (first | omega | assumption), by subst es_60; (first | omega | assumption)⟩))) | exact Or.inr (Or.inr (Or.inr ((⟨by subst es_60; (first | rfl | exact up2_s), by subst es_60; (first | rfl | assumption), by subst es_60; (rfl), by subst es_60; (first | omega | assumption), by subst es_60; (first | omega | assumption), by subst es_60; (first | omega | assumption), by subst es_60; (first | omega | assumption)⟩)))) | exact False.elim (by omega)) dX10_steer_87
          · skip
            refine bz_ne (tgt := 71) (a := 0) (b := 0) hC.x hC.b rfl rfl dX10_steer_65 (by decide) (fun c_62 => absurd c_62 (by decide)) (fun _ => ?_)
            refine lv_ldc hC.x hC.b hC.ow (hC.ts _ TK_X10_151) dX10_steer_68 ?_
            exact reti hC hK hR hS (by first | exact Or.inr (Or.inr (Or.inl (⟨by first | rfl | exact up2_s, by first | rfl | assumption, by rfl, by first | omega | assumption, by first | omega | assumption, by first | omega | assumption⟩))) | exact Or.inr (Or.inr (Or.inr ((⟨by first | rfl | exact up2_s, by first | rfl | assumption, by rfl, by first | omega | assumption, by first | omega | assumption, by first | omega | assumption, by first | omega | assumption⟩)))) | exact False.elim (by omega)) dX10_steer_70
        · skip
          refine bz_eq (tgt := 68) (a := 0) (b := 0) hC.x hC.b rfl rfl dX10_steer_47 (by decide) (fun _ => ?_) (fun c_63 => absurd c_63 (by decide))
          refine lv_ldc hC.x hC.b hC.ow (hC.ts _ TK_X10_151) dX10_steer_68 ?_
          exact reti hC hK hR hS (by first | exact Or.inr (Or.inr (Or.inl (⟨by first | rfl | exact up2_s, by first | rfl | assumption, by rfl, by first | omega | assumption, by first | omega | assumption, by first | omega | assumption⟩))) | exact Or.inr (Or.inr (Or.inr ((⟨by first | rfl | exact up2_s, by first | rfl | assumption, by rfl, by first | omega | assumption, by first | omega | assumption, by first | omega | assumption, by first | omega | assumption⟩)))) | exact False.elim (by omega)) dX10_steer_70
      · skip
        refine lv_bipush (v := (-2)) hC.x hC.b dX10_steer_34 (by decide) ?_
        exact reti hC hK hR hS (by first | exact Or.inr (Or.inl (⟨by first | rfl | exact up2_s, by first | rfl | assumption, by rfl, by first | omega | assumption, by first | omega | assumption, by first | omega | assumption⟩)) | exact Or.inr (Or.inr (Or.inr ((⟨by first | rfl | exact up2_s, by first | rfl | assumption, by rfl, by first | omega | assumption, by first | omega | assumption, by first | omega | assumption, by first | omega | assumption⟩)))) | exact False.elim (by omega)) dX10_steer_36
  · skip
    refine lv_istore_n (lv' := [(3, .int (-2 : Int32)), (0, .ref (G.2.1 35)), (1, .int pl), (2, .int xa)]) hC.x hC.b dX10_steer_7 rfl hl (by decide) rfl (fun ls hl => ?_)
    refine lv_iload_n hC.x hC.b dX10_steer_8 rfl (lv_at hl 0 rfl) ?_
    refine bz_eq (tgt := 14) (a := (-2)) (b := 0) hC.x hC.b rfl rfl dX10_steer_9 (by decide) (fun c_64 => absurd c_64 (by decide)) (fun _ => ?_)
    refine lv_iload_n hC.x hC.b dX10_steer_12 rfl (lv_at hl 0 rfl) ?_
    exact reti hC hK hR hS (by first | exact Or.inr (Or.inl (⟨by first | rfl | exact up2_s, by first | rfl | assumption, by rfl, by first | omega | assumption, by first | omega | assumption, by first | omega | assumption⟩)) | exact Or.inr (Or.inr (Or.inr ((⟨by first | rfl | exact up2_s, by first | rfl | assumption, by rfl, by first | omega | assumption, by first | omega | assumption, by first | omega | assumption, by first | omega | assumption⟩)))) | exact False.elim (by omega)) dX10_steer_13

abbrev po_X10_isTaken (σ : SI) (τ : SL) (pl : Int32) (q : Nat) : Int32 → SI × SL → Prop := fun v u => u = (σ, τ) ∧ (((v = (1)) ∧ (0 ≤ pl.toInt ∧ pl.toInt < 24) ∧ (0 ≤ (σ 36 q).toInt ∧ (σ 36 q).toInt ≤ 3) ∧ ((σ 39 q).toInt ≠ 0) ∧ ((σ 36 q).toInt ≠ 3 ∨ (σ 40 q).toInt ≠ 0)) ∨ ((v = (0)) ∧ (¬ (0 ≤ pl.toInt ∧ pl.toInt < 24 ∧ 0 ≤ (σ 36 q).toInt ∧ (σ 36 q).toInt ≤ 3) ∨ (σ 39 q).toInt = 0 ∨ ((σ 36 q).toInt = 3 ∧ (σ 40 q).toInt = 0))))
set_option maxRecDepth 100000 in
set_option maxHeartbeats 4000000 in
theorem c_X10_isTaken (l : Launch) {G : Gx} {A : Nat → Prop} (hG : GOk G A) (σ : SI) (τ : SL) (pl : Int32) (q : Nat) (hp_q : pl.toInt.toNat = q) : MI l G A 2 yX10_isTaken cX10_isTaken 2 (some .boolean) [.ref (G.2.1 35), .int pl] (σ, τ) (po_X10_isTaken σ τ pl q) := by
  refine met_of (own := RX10) (by decide +kernel) rfl [(0, .ref (G.2.1 35)), (1, .int pl)] rfl (Nat.le_of_ble_eq_true rfl) ?_
  intro p e s m args below meth c ls hC hK hR hl
  have hS : va_S A s.heap s.heap [] := va_S.rf
  refine lv_aload_n hC.x hC.b dX10_isTaken_0 rfl (lv_at hl 0 rfl) ?_
  refine lv_iload_n hC.x hC.b dX10_isTaken_1 rfl (lv_at hl 1 rfl) ?_
  refine goip (runV (As := [.int pl]) (rest := []) hC hK hR hl.1 (c_X10_isClock l hG σ τ pl q (by first | rfl | (rw [show pl.toInt = pl.toInt from rfl]; done) | (rw [show pl.toInt = pl.toInt from rfl]; exact hp_q)) ) (call_b hC.ts TC_X10_isClock TN_X10 TM_X10_133 hd_X10_isClock ⟨Nat.le_of_ble_eq_true rfl, Nat.le_of_ble_eq_true rfl⟩) TI_X10_isClock TS_X10_isClock (ct_model G _ _) rfl rfl rfl (Nat.le_of_ble_eq_true rfl) dX10_isTaken_2 ⟨Nat.le_of_ble_eq_true rfl, Nat.le_of_ble_eq_true rfl⟩) hS (fun v_1 H locs w_2 hR hS => ?_)
  rcases w_2 with ⟨rfl, f_3, f_4⟩ | ⟨rfl, f_5⟩
  · skip
    refine bz_eq (tgt := 40) (a := 1) (b := 0) hC.x hC.b rfl rfl dX10_isTaken_5 (by decide) (fun c_6 => absurd c_6 (by decide)) (fun _ => ?_)
    refine lv_aload_n hC.x hC.b dX10_isTaken_8 rfl (lv_at hl 0 rfl) ?_
    refine rget hC hK hR (ct_model G _ _) rfl uin_X10 3 (by decide) TF_X10_19 rfl dX10_isTaken_9 ?_
    refine lv_iload_n hC.x hC.b dX10_isTaken_12 rfl (lv_at hl 1 rfl) ?_
    refine zald hC hK hR (ct_m_taken G _ _) rfl (by omega) (by omega) hp_q dX10_isTaken_13 ?_
    refine bz_eq (tgt := 40) (a := (σ 39 q).toInt) (b := 0) hC.x hC.b rfl rfl dX10_isTaken_14 (by decide) (fun c_7 => ?_) (fun c_7 => ?_)
    · skip
      refine lv_iconst (v := 0) hC.x hC.b dX10_isTaken_40 (by decide) ?_
      exact retz hC hK hR hS (Or.inl rfl) ⟨rfl, (by first | exact Or.inr ((⟨by first | rfl | omega, by first | omega | assumption⟩)) | exact False.elim (by omega))⟩ dX10_isTaken_41
    · skip
      refine lv_aload_n hC.x hC.b dX10_isTaken_17 rfl (lv_at hl 0 rfl) ?_
      refine rget hC hK hR (ct_model G _ _) rfl uin_X10 0 (by decide) TF_X10_9 rfl dX10_isTaken_18 ?_
      refine lv_iload_n hC.x hC.b dX10_isTaken_21 rfl (lv_at hl 1 rfl) ?_
      refine ald hC hK hR (ct_m_kinds G _ _) rfl (by omega) (by omega) hp_q dX10_isTaken_22 ?_
      refine lv_iconst (v := 3) hC.x hC.b dX10_isTaken_23 (by decide) ?_
      refine bi_ne (tgt := 36) (a := (σ 36 q).toInt) (b := 3) hC.x hC.b rfl rfl dX10_isTaken_24 (by decide) (fun c_8 => ?_) (fun c_8 => ?_)
      · skip
        refine lv_iconst (v := 1) hC.x hC.b dX10_isTaken_36 (by decide) ?_
        refine lv_goto (tgt := 41) hC.x hC.b dX10_isTaken_37 (by decide) ?_
        exact retz hC hK hR hS (Or.inr rfl) ⟨rfl, (by first | exact Or.inl (⟨by first | rfl | omega, by first | omega | assumption, by first | omega | assumption, by first | omega | assumption, by first | omega | assumption⟩) | exact False.elim (by omega))⟩ dX10_isTaken_41
      · skip
        refine lv_aload_n hC.x hC.b dX10_isTaken_27 rfl (lv_at hl 0 rfl) ?_
        refine rget hC hK hR (ct_model G _ _) rfl uin_X10 4 (by decide) TF_X10_23 rfl dX10_isTaken_28 ?_
        refine lv_iload_n hC.x hC.b dX10_isTaken_31 rfl (lv_at hl 1 rfl) ?_
        refine zald hC hK hR (ct_m_called G _ _) rfl (by omega) (by omega) hp_q dX10_isTaken_32 ?_
        refine bz_eq (tgt := 40) (a := (σ 40 q).toInt) (b := 0) hC.x hC.b rfl rfl dX10_isTaken_33 (by decide) (fun c_9 => ?_) (fun c_9 => ?_)
        · skip
          refine lv_iconst (v := 0) hC.x hC.b dX10_isTaken_40 (by decide) ?_
          exact retz hC hK hR hS (Or.inl rfl) ⟨rfl, (by first | exact Or.inr ((⟨by first | rfl | omega, by first | omega | assumption⟩)) | exact False.elim (by omega))⟩ dX10_isTaken_41
        · skip
          refine lv_iconst (v := 1) hC.x hC.b dX10_isTaken_36 (by decide) ?_
          refine lv_goto (tgt := 41) hC.x hC.b dX10_isTaken_37 (by decide) ?_
          exact retz hC hK hR hS (Or.inr rfl) ⟨rfl, (by first | exact Or.inl (⟨by first | rfl | omega, by first | omega | assumption, by first | omega | assumption, by first | omega | assumption, by first | omega | assumption⟩) | exact False.elim (by omega))⟩ dX10_isTaken_41
  · skip
    refine bz_eq (tgt := 40) (a := 0) (b := 0) hC.x hC.b rfl rfl dX10_isTaken_5 (by decide) (fun _ => ?_) (fun c_10 => absurd c_10 (by decide))
    refine lv_iconst (v := 0) hC.x hC.b dX10_isTaken_40 (by decide) ?_
    exact retz hC hK hR hS (Or.inl rfl) ⟨rfl, (by first | exact Or.inr ((⟨by first | rfl | omega, by first | omega | assumption⟩)) | exact False.elim (by omega))⟩ dX10_isTaken_41

abbrev po_X10_isX (σ : SI) (τ : SL) (hr : Int32) (hq : Nat) (pl : Int32) (q : Nat) : Int32 → SI × SL → Prop := fun v u => u = (σ, τ) ∧ (((v = (1)) ∧ (0 ≤ hr.toInt) ∧ (hr.toInt < (σ 35 29).toInt)) ∨ ((v = (0))))
set_option maxRecDepth 100000 in
set_option maxHeartbeats 4000000 in
theorem c_X10_isX (l : Launch) {G : Gx} {A : Nat → Prop} (hG : GOk G A) (σ : SI) (τ : SL) (hr : Int32) (hq : Nat) (hp_hq : hr.toInt.toNat = hq) (pl : Int32) (q : Nat) (hp_q : pl.toInt.toNat = q) (hnw : 0 ≤ (σ 35 29).toInt ∧ (σ 35 29).toInt ≤ 200) (hin : 0 ≤ pl.toInt ∧ pl.toInt < 24) : MI l G A 1 yX10_isX cX10_isX 3 (some .boolean) [.ref (G.2.1 35), .int hr, .int pl] (σ, τ) (po_X10_isX σ τ hr hq pl q) := by
  refine met_of (own := RX10) (by decide +kernel) rfl [(0, .ref (G.2.1 35)), (1, .int hr), (2, .int pl)] rfl (Nat.le_of_ble_eq_true rfl) ?_
  intro p e s m args below meth c ls hC hK hR hl
  have hS : va_S A s.heap s.heap [] := va_S.rf
  refine lv_iload_n hC.x hC.b dX10_isX_0 rfl (lv_at hl 1 rfl) ?_
  refine lv_aload_n hC.x hC.b dX10_isX_1 rfl (lv_at hl 0 rfl) ?_
  refine rget hC hK hR (ct_model G _ _) rfl uin_X10 7 (by decide) TF_X10_32 rfl dX10_isX_2 ?_
  refine lv_iload_n hC.x hC.b dX10_isX_5 rfl (lv_at hl 2 rfl) ?_
  refine ald hC hK hR (ct_m_since G _ _) rfl (by omega) (by omega) hp_q dX10_isX_6 ?_
  refine bi_lt (tgt := 42) (a := hr.toInt) (b := (σ 43 q).toInt) hC.x hC.b rfl rfl dX10_isX_7 (by decide) (fun c_1 => ?_) (fun c_1 => ?_)
  · skip
    refine lv_iconst (v := 0) hC.x hC.b dX10_isX_42 (by decide) ?_
    exact retz hC hK hR hS (Or.inl rfl) ⟨rfl, (by first | exact Or.inr ((by first | rfl | omega)) | exact False.elim (by omega))⟩ dX10_isX_43
  · skip
    refine lv_iload_n hC.x hC.b dX10_isX_10 rfl (lv_at hl 1 rfl) ?_
    refine lv_iconst (v := 0) hC.x hC.b dX10_isX_11 (by decide) ?_
    refine lv_aload_n hC.x hC.b dX10_isX_12 rfl (lv_at hl 0 rfl) ?_
    refine rget hC hK hR (ct_model G _ _) rfl uin_X10 29 (by decide) TF_X10_137 rfl dX10_isX_13 ?_
    refine lv_iconst (v := 1) hC.x hC.b dX10_isX_16 (by decide) ?_
    refine lv_isub hC.x hC.b dX10_isX_17 ?_
    have pr_2 : ((σ 35 29) - (1 : Int32)).toInt = ((σ 35 29).toInt - 1) := subI rfl rfl (by omega) (by omega)
    have av_3 : (0 : Int32).toInt = 0 := by decide
    have av_4 : ((σ 35 29) - (1 : Int32)).toInt = ((σ 35 29).toInt - 1) := pr_2
    refine goip (runS (As := [.int hr, .int (0 : Int32), .int ((σ 35 29) - (1 : Int32))]) (rest := []) hC hK hR hl.1 (c_X10_isIn l hG σ τ hr (0 : Int32) ((σ 35 29) - (1 : Int32)) ) (call_b hC.ts TC_X10_isIn TN_X10 TM_X10_129 hd_X10_isIn ⟨Nat.le_of_ble_eq_true rfl, Nat.le_of_ble_eq_true rfl⟩) TT_X10_isIn rfl rfl (Nat.le_of_ble_eq_true rfl) dX10_isX_18 ⟨Nat.le_of_ble_eq_true rfl, Nat.le_of_ble_eq_true rfl⟩) hS (fun v_5 H locs w_6 hR hS => ?_)
    rcases w_6 with ⟨rfl, f_7, f_8⟩ | ⟨rfl, f_9⟩
    · skip
      refine bz_eq (tgt := 42) (a := 1) (b := 0) hC.x hC.b rfl rfl dX10_isX_21 (by decide) (fun c_10 => absurd c_10 (by decide)) (fun _ => ?_)
      refine lv_aload_n hC.x hC.b dX10_isX_24 rfl (lv_at hl 0 rfl) ?_
      refine rget hC hK hR (ct_model G _ _) rfl uin_X10 16 (by decide) TF_X10_59 rfl dX10_isX_25 ?_
      refine lv_aload_n hC.x hC.b dX10_isX_28 rfl (lv_at hl 0 rfl) ?_
      refine lv_iload_n hC.x hC.b dX10_isX_29 rfl (lv_at hl 1 rfl) ?_
      refine lv_iload_n hC.x hC.b dX10_isX_30 rfl (lv_at hl 2 rfl) ?_
      refine goip (runV (As := [.int hr, .int pl]) (rest := [.ref (G.2.1 52)]) hC hK hR hl.1 (c_X10_at l hG σ τ hr hq (by first | rfl | (rw [show hr.toInt = hr.toInt from rfl]; done) | (rw [show hr.toInt = hr.toInt from rfl]; exact hp_hq)) pl q (by first | rfl | (rw [show pl.toInt = pl.toInt from rfl]; done) | (rw [show pl.toInt = pl.toInt from rfl]; exact hp_q)) (by omega) (by omega)) (call_b hC.ts TC_X10_at TN_X10 TM_X10_140 hd_X10_at ⟨Nat.le_of_ble_eq_true rfl, Nat.le_of_ble_eq_true rfl⟩) TI_X10_at TS_X10_at (ct_model G _ _) rfl rfl rfl (Nat.le_of_ble_eq_true rfl) dX10_isX_31 ⟨Nat.le_of_ble_eq_true rfl, Nat.le_of_ble_eq_true rfl⟩) hS (fun v_11 H locs w_12 hR hS => ?_)
      subst w_12
      refine zald hC hK hR (ct_m_hasX G _ _) (nI_T _ (by omega)) (by omega) (by omega) (Int.toNat_natCast _) dX10_isX_34 ?_
      refine bz_eq (tgt := 42) (a := (σ 52 (24 * hq + q)).toInt) (b := 0) hC.x hC.b rfl rfl dX10_isX_35 (by decide) (fun c_13 => ?_) (fun c_13 => ?_)
      · skip
        refine lv_iconst (v := 0) hC.x hC.b dX10_isX_42 (by decide) ?_
        exact retz hC hK hR hS (Or.inl rfl) ⟨rfl, (by first | exact Or.inr ((by first | rfl | omega)) | exact False.elim (by omega))⟩ dX10_isX_43
      · skip
        refine lv_iconst (v := 1) hC.x hC.b dX10_isX_38 (by decide) ?_
        refine lv_goto (tgt := 43) hC.x hC.b dX10_isX_39 (by decide) ?_
        exact retz hC hK hR hS (Or.inr rfl) ⟨rfl, (by first | exact Or.inl (⟨by first | rfl | omega, by first | omega | assumption, by first | omega | assumption⟩) | exact False.elim (by omega))⟩ dX10_isX_43
    · skip
      refine bz_eq (tgt := 42) (a := 0) (b := 0) hC.x hC.b rfl rfl dX10_isX_21 (by decide) (fun _ => ?_) (fun c_14 => absurd c_14 (by decide))
      refine lv_iconst (v := 0) hC.x hC.b dX10_isX_42 (by decide) ?_
      exact retz hC hK hR hS (Or.inl rfl) ⟨rfl, (by first | exact Or.inr ((by first | rfl | omega)) | exact False.elim (by omega))⟩ dX10_isX_43

abbrev po_X10_isMissed (σ : SI) (τ : SL) (hr : Int32) (hq : Nat) (pl : Int32) (q : Nat) : Int32 → SI × SL → Prop := fun v u => u = (σ, τ) ∧ (((v = (1)) ∧ (0 ≤ hr.toInt) ∧ (hr.toInt < (σ 35 29).toInt)) ∨ ((v = (0))))
set_option maxRecDepth 100000 in
set_option maxHeartbeats 4000000 in
theorem c_X10_isMissed (l : Launch) {G : Gx} {A : Nat → Prop} (hG : GOk G A) (σ : SI) (τ : SL) (hr : Int32) (hq : Nat) (hp_hq : hr.toInt.toNat = hq) (pl : Int32) (q : Nat) (hp_q : pl.toInt.toNat = q) (hnw : 0 ≤ (σ 35 29).toInt ∧ (σ 35 29).toInt ≤ 200) (hin : 0 ≤ pl.toInt ∧ pl.toInt < 24) : MI l G A 2 yX10_isMissed cX10_isMissed 3 (some .boolean) [.ref (G.2.1 35), .int hr, .int pl] (σ, τ) (po_X10_isMissed σ τ hr hq pl q) := by
  refine met_of (own := RX10) (by decide +kernel) rfl [(0, .ref (G.2.1 35)), (1, .int hr), (2, .int pl)] rfl (Nat.le_of_ble_eq_true rfl) ?_
  intro p e s m args below meth c ls hC hK hR hl
  have hS : va_S A s.heap s.heap [] := va_S.rf
  refine lv_aload_n hC.x hC.b dX10_isMissed_0 rfl (lv_at hl 0 rfl) ?_
  refine lv_iload_n hC.x hC.b dX10_isMissed_1 rfl (lv_at hl 1 rfl) ?_
  refine lv_iload_n hC.x hC.b dX10_isMissed_2 rfl (lv_at hl 2 rfl) ?_
  refine goip (runV (As := [.int hr, .int pl]) (rest := []) hC hK hR hl.1 (c_X10_isX l hG σ τ hr hq (by first | rfl | (rw [show hr.toInt = hr.toInt from rfl]; done) | (rw [show hr.toInt = hr.toInt from rfl]; exact hp_hq)) pl q (by first | rfl | (rw [show pl.toInt = pl.toInt from rfl]; done) | (rw [show pl.toInt = pl.toInt from rfl]; exact hp_q)) (by first | assumption | omega) (by omega)) (call_b hC.ts TC_X10_isX TN_X10 TM_X10_172 hd_X10_isX ⟨Nat.le_of_ble_eq_true rfl, Nat.le_of_ble_eq_true rfl⟩) TI_X10_isX TS_X10_isX (ct_model G _ _) rfl rfl rfl (Nat.le_of_ble_eq_true rfl) dX10_isMissed_3 ⟨Nat.le_of_ble_eq_true rfl, Nat.le_of_ble_eq_true rfl⟩) hS (fun v_1 H locs w_2 hR hS => ?_)
  rcases w_2 with ⟨rfl, f_3, f_4⟩ | rfl
  · skip
    refine bz_eq (tgt := 27) (a := 1) (b := 0) hC.x hC.b rfl rfl dX10_isMissed_6 (by decide) (fun c_5 => absurd c_5 (by decide)) (fun _ => ?_)
    refine lv_aload_n hC.x hC.b dX10_isMissed_9 rfl (lv_at hl 0 rfl) ?_
    refine rget hC hK hR (ct_model G _ _) rfl uin_X10 17 (by decide) TF_X10_62 rfl dX10_isMissed_10 ?_
    refine lv_aload_n hC.x hC.b dX10_isMissed_13 rfl (lv_at hl 0 rfl) ?_
    refine lv_iload_n hC.x hC.b dX10_isMissed_14 rfl (lv_at hl 1 rfl) ?_
    refine lv_iload_n hC.x hC.b dX10_isMissed_15 rfl (lv_at hl 2 rfl) ?_
    refine goip (runV (As := [.int hr, .int pl]) (rest := [.ref (G.2.1 53)]) hC hK hR hl.1 (c_X10_at l hG σ τ hr hq (by first | rfl | (rw [show hr.toInt = hr.toInt from rfl]; done) | (rw [show hr.toInt = hr.toInt from rfl]; exact hp_hq)) pl q (by first | rfl | (rw [show pl.toInt = pl.toInt from rfl]; done) | (rw [show pl.toInt = pl.toInt from rfl]; exact hp_q)) (by omega) (by omega)) (call_b hC.ts TC_X10_at TN_X10 TM_X10_140 hd_X10_at ⟨Nat.le_of_ble_eq_true rfl, Nat.le_of_ble_eq_true rfl⟩) TI_X10_at TS_X10_at (ct_model G _ _) rfl rfl rfl (Nat.le_of_ble_eq_true rfl) dX10_isMissed_16 ⟨Nat.le_of_ble_eq_true rfl, Nat.le_of_ble_eq_true rfl⟩) hS (fun v_6 H locs w_7 hR hS => ?_)
    subst w_7
    refine zald hC hK hR (ct_m_hasF G _ _) (nI_T _ (by omega)) (by omega) (by omega) (Int.toNat_natCast _) dX10_isMissed_19 ?_
    refine bz_eq (tgt := 27) (a := (σ 53 (24 * hq + q)).toInt) (b := 0) hC.x hC.b rfl rfl dX10_isMissed_20 (by decide) (fun c_8 => ?_) (fun c_8 => ?_)
    · skip
      refine lv_iconst (v := 0) hC.x hC.b dX10_isMissed_27 (by decide) ?_
      exact retz hC hK hR hS (Or.inl rfl) ⟨rfl, (by first | exact Or.inr ((by first | rfl | omega)) | exact False.elim (by omega))⟩ dX10_isMissed_28
    · skip
      refine lv_iconst (v := 1) hC.x hC.b dX10_isMissed_23 (by decide) ?_
      refine lv_goto (tgt := 28) hC.x hC.b dX10_isMissed_24 (by decide) ?_
      exact retz hC hK hR hS (Or.inr rfl) ⟨rfl, (by first | exact Or.inl (⟨by first | rfl | omega, by first | omega | assumption, by first | omega | assumption⟩) | exact False.elim (by omega))⟩ dX10_isMissed_28
  · skip
    refine bz_eq (tgt := 27) (a := 0) (b := 0) hC.x hC.b rfl rfl dX10_isMissed_6 (by decide) (fun _ => ?_) (fun c_9 => absurd c_9 (by decide))
    refine lv_iconst (v := 0) hC.x hC.b dX10_isMissed_27 (by decide) ?_
    exact retz hC hK hR hS (Or.inl rfl) ⟨rfl, (by first | exact Or.inr ((by first | rfl | omega)) | exact False.elim (by omega))⟩ dX10_isMissed_28

abbrev po_X10_isGain (σ : SI) (τ : SL) (hr : Int32) (hq : Nat) (pl : Int32) (q : Nat) : Int32 → SI × SL → Prop := fun v u => u = (σ, τ) ∧ (((v = (1)) ∧ (0 ≤ hr.toInt) ∧ (hr.toInt < (σ 35 29).toInt) ∧ (1 ≤ hr.toInt)) ∨ ((v = (0))))
set_option maxRecDepth 100000 in
set_option maxHeartbeats 4000000 in
theorem c_X10_isGain (l : Launch) {G : Gx} {A : Nat → Prop} (hG : GOk G A) (σ : SI) (τ : SL) (hr : Int32) (hq : Nat) (hp_hq : hr.toInt.toNat = hq) (pl : Int32) (q : Nat) (hp_q : pl.toInt.toNat = q) (hnw : 0 ≤ (σ 35 29).toInt ∧ (σ 35 29).toInt ≤ 200) (hin : 0 ≤ pl.toInt ∧ pl.toInt < 24) : MI l G A 2 yX10_isGain cX10_isGain 3 (some .boolean) [.ref (G.2.1 35), .int hr, .int pl] (σ, τ) (po_X10_isGain σ τ hr hq pl q) := by
  refine met_of (own := RX10) (by decide +kernel) rfl [(0, .ref (G.2.1 35)), (1, .int hr), (2, .int pl)] rfl (Nat.le_of_ble_eq_true rfl) ?_
  intro p e s m args below meth c ls hC hK hR hl
  have hS : va_S A s.heap s.heap [] := va_S.rf
  refine lv_aload_n hC.x hC.b dX10_isGain_0 rfl (lv_at hl 0 rfl) ?_
  refine lv_iload_n hC.x hC.b dX10_isGain_1 rfl (lv_at hl 1 rfl) ?_
  refine lv_iload_n hC.x hC.b dX10_isGain_2 rfl (lv_at hl 2 rfl) ?_
  refine goip (runV (As := [.int hr, .int pl]) (rest := []) hC hK hR hl.1 (c_X10_isX l hG σ τ hr hq (by first | rfl | (rw [show hr.toInt = hr.toInt from rfl]; done) | (rw [show hr.toInt = hr.toInt from rfl]; exact hp_hq)) pl q (by first | rfl | (rw [show pl.toInt = pl.toInt from rfl]; done) | (rw [show pl.toInt = pl.toInt from rfl]; exact hp_q)) (by first | assumption | omega) (by omega)) (call_b hC.ts TC_X10_isX TN_X10 TM_X10_172 hd_X10_isX ⟨Nat.le_of_ble_eq_true rfl, Nat.le_of_ble_eq_true rfl⟩) TI_X10_isX TS_X10_isX (ct_model G _ _) rfl rfl rfl (Nat.le_of_ble_eq_true rfl) dX10_isGain_3 ⟨Nat.le_of_ble_eq_true rfl, Nat.le_of_ble_eq_true rfl⟩) hS (fun v_1 H locs w_2 hR hS => ?_)
  rcases w_2 with ⟨rfl, f_3, f_4⟩ | rfl
  · skip
    refine bz_eq (tgt := 41) (a := 1) (b := 0) hC.x hC.b rfl rfl dX10_isGain_6 (by decide) (fun c_5 => absurd c_5 (by decide)) (fun _ => ?_)
    refine lv_aload_n hC.x hC.b dX10_isGain_9 rfl (lv_at hl 0 rfl) ?_
    refine lv_iload_n hC.x hC.b dX10_isGain_10 rfl (lv_at hl 1 rfl) ?_
    refine lv_iconst (v := 1) hC.x hC.b dX10_isGain_11 (by decide) ?_
    refine lv_isub hC.x hC.b dX10_isGain_12 ?_
    have pr_6 : (hr - (1 : Int32)).toInt = (hr.toInt - 1) := subI rfl rfl (by omega) (by omega)
    refine lv_iload_n hC.x hC.b dX10_isGain_13 rfl (lv_at hl 2 rfl) ?_
    have av_7 : (hr - (1 : Int32)).toInt = (hr.toInt - 1) := pr_6
    refine goip (runV (As := [.int (hr - (1 : Int32)), .int pl]) (rest := []) hC hK hR hl.1 (c_X10_isX l hG σ τ (hr - (1 : Int32)) ((hr.toInt - 1).toNat) (by first | rfl | (rw [show (hr - (1 : Int32)).toInt = (hr.toInt - 1) from pr_6]; done) | (rw [show (hr - (1 : Int32)).toInt = (hr.toInt - 1) from pr_6]; exact rfl)) pl q (by first | rfl | (rw [show pl.toInt = pl.toInt from rfl]; done) | (rw [show pl.toInt = pl.toInt from rfl]; exact hp_q)) (by first | assumption | omega) (by omega)) (call_b hC.ts TC_X10_isX TN_X10 TM_X10_172 hd_X10_isX ⟨Nat.le_of_ble_eq_true rfl, Nat.le_of_ble_eq_true rfl⟩) TI_X10_isX TS_X10_isX (ct_model G _ _) rfl rfl rfl (Nat.le_of_ble_eq_true rfl) dX10_isGain_14 ⟨Nat.le_of_ble_eq_true rfl, Nat.le_of_ble_eq_true rfl⟩) hS (fun v_8 H locs w_9 hR hS => ?_)
    rcases w_9 with ⟨rfl, f_10, f_11⟩ | rfl
    · skip
      refine bz_eq (tgt := 41) (a := 1) (b := 0) hC.x hC.b rfl rfl dX10_isGain_17 (by decide) (fun c_12 => absurd c_12 (by decide)) (fun _ => ?_)
      refine lv_iload_n hC.x hC.b dX10_isGain_20 rfl (lv_at hl 1 rfl) ?_
      refine lv_iconst (v := 1) hC.x hC.b dX10_isGain_21 (by decide) ?_
      refine lv_isub hC.x hC.b dX10_isGain_22 ?_
      refine lv_aload_n hC.x hC.b dX10_isGain_23 rfl (lv_at hl 0 rfl) ?_
      refine rget hC hK hR (ct_model G _ _) rfl uin_X10 29 (by decide) TF_X10_137 rfl dX10_isGain_24 ?_
      refine lv_aload_n hC.x hC.b dX10_isGain_27 rfl (lv_at hl 0 rfl) ?_
      refine rget hC hK hR (ct_model G _ _) rfl uin_X10 1 (by decide) TF_X10_13 rfl dX10_isGain_28 ?_
      refine lv_iload_n hC.x hC.b dX10_isGain_31 rfl (lv_at hl 2 rfl) ?_
      refine ald hC hK hR (ct_m_one G _ _) rfl (by omega) (by omega) hp_q dX10_isGain_32 ?_
      refine lv_isub hC.x hC.b dX10_isGain_33 ?_
      refine bi_lt (tgt := 41) (a := (hr - (1 : Int32)).toInt) (b := ((σ 35 29) - (σ 37 q)).toInt) hC.x hC.b rfl rfl dX10_isGain_34 (by decide) (fun c_13 => ?_) (fun c_13 => ?_)
      · skip
        refine lv_iconst (v := 0) hC.x hC.b dX10_isGain_41 (by decide) ?_
        exact retz hC hK hR hS (Or.inl rfl) ⟨rfl, (by first | exact Or.inr ((by first | rfl | omega)) | exact False.elim (by omega))⟩ dX10_isGain_42
      · skip
        refine lv_iconst (v := 1) hC.x hC.b dX10_isGain_37 (by decide) ?_
        refine lv_goto (tgt := 42) hC.x hC.b dX10_isGain_38 (by decide) ?_
        exact retz hC hK hR hS (Or.inr rfl) ⟨rfl, (by first | exact Or.inl (⟨by first | rfl | omega, by first | omega | assumption, by first | omega | assumption, by first | omega | assumption⟩) | exact False.elim (by omega))⟩ dX10_isGain_42
    · skip
      refine bz_eq (tgt := 41) (a := 0) (b := 0) hC.x hC.b rfl rfl dX10_isGain_17 (by decide) (fun _ => ?_) (fun c_14 => absurd c_14 (by decide))
      refine lv_iconst (v := 0) hC.x hC.b dX10_isGain_41 (by decide) ?_
      exact retz hC hK hR hS (Or.inl rfl) ⟨rfl, (by first | exact Or.inr ((by first | rfl | omega)) | exact False.elim (by omega))⟩ dX10_isGain_42
  · skip
    refine bz_eq (tgt := 41) (a := 0) (b := 0) hC.x hC.b rfl rfl dX10_isGain_6 (by decide) (fun _ => ?_) (fun c_15 => absurd c_15 (by decide))
    refine lv_iconst (v := 0) hC.x hC.b dX10_isGain_41 (by decide) ?_
    exact retz hC hK hR hS (Or.inl rfl) ⟨rfl, (by first | exact Or.inr ((by first | rfl | omega)) | exact False.elim (by omega))⟩ dX10_isGain_42

abbrev po_X10_downwards (σ : SI) (τ : SL) (xa : Int64) (ya : Int64) : Int64 → SI × SL → Prop := fun v u => u = (σ, τ) ∧ (True)
set_option maxRecDepth 100000 in
set_option maxHeartbeats 4000000 in
theorem c_X10_downwards (l : Launch) {G : Gx} {A : Nat → Prop} (hG : GOk G A) (σ : SI) (τ : SL) (xa : Int64) (ya : Int64) (hnz : ya.toInt ≠ 0) : ML l G A 0 yX10_downwards cX10_downwards 4 (some .long) [.long xa, .long ya] (σ, τ) (po_X10_downwards σ τ xa ya) := by
  refine met_of (own := RX10) (by decide +kernel) rfl [(0, .long xa), (2, .long ya)] rfl (Nat.le_of_ble_eq_true rfl) ?_
  intro p e s m args below meth c ls hC hK hR hl
  have hS : va_S A s.heap s.heap [] := va_S.rf
  refine lv_lload_n hC.x hC.b dX10_downwards_0 rfl (lv_at hl 0 rfl) ?_
  refine lv_lconst (v := 0) hC.x hC.b dX10_downwards_1 (by decide) ?_
  refine bl_lt (tgt := 12) (a := xa.toInt) (b := 0) hC.x hC.b rfl rfl dX10_downwards_2 dX10_downwards_3 (by decide) (fun c_1 => ?_) (fun c_1 => ?_)
  · skip
    refine lv_lload_n hC.x hC.b dX10_downwards_12 rfl (lv_at hl 0 rfl) ?_
    refine lv_lneg hC.x hC.b dX10_downwards_13 ?_
    refine lv_lload_n hC.x hC.b dX10_downwards_14 rfl (lv_at hl 1 rfl) ?_
    refine lv_ladd hC.x hC.b dX10_downwards_15 ?_
    refine lv_lconst (v := 1) hC.x hC.b dX10_downwards_16 (by decide) ?_
    refine lv_lsub hC.x hC.b dX10_downwards_17 ?_
    refine lv_lload_n hC.x hC.b dX10_downwards_18 rfl (lv_at hl 1 rfl) ?_
    refine lv_ldiv hC.x hC.b dX10_downwards_19 (ne0L rfl (by omega)) ?_
    refine lv_lneg hC.x hC.b dX10_downwards_20 ?_
    exact retl hC hK hR hS ⟨rfl, (trivial)⟩ dX10_downwards_21
  · skip
    refine lv_lload_n hC.x hC.b dX10_downwards_6 rfl (lv_at hl 0 rfl) ?_
    refine lv_lload_n hC.x hC.b dX10_downwards_7 rfl (lv_at hl 1 rfl) ?_
    refine lv_ldiv hC.x hC.b dX10_downwards_8 (ne0L rfl (by omega)) ?_
    refine lv_goto (tgt := 21) hC.x hC.b dX10_downwards_9 (by decide) ?_
    exact retl hC hK hR hS ⟨rfl, (trivial)⟩ dX10_downwards_21

abbrev po_X10_amount (σ : SI) (τ : SL) (xa : Int32) : Int32 → SI × SL → Prop := fun v u => u = (σ, τ) ∧ (True)
set_option maxRecDepth 100000 in
set_option maxHeartbeats 4000000 in
theorem c_X10_amount (l : Launch) {G : Gx} {A : Nat → Prop} (hG : GOk G A) (σ : SI) (τ : SL) (xa : Int32) : MI l G A 0 yX10_amount cX10_amount 1 (some .int) [.int xa] (σ, τ) (po_X10_amount σ τ xa) := by
  refine met_of (own := RX10) (by decide +kernel) rfl [(0, .int xa)] rfl (Nat.le_of_ble_eq_true rfl) ?_
  intro p e s m args below meth c ls hC hK hR hl
  have hS : va_S A s.heap s.heap [] := va_S.rf
  refine lv_iload_n hC.x hC.b dX10_amount_0 rfl (lv_at hl 0 rfl) ?_
  refine bz_ge (tgt := 9) (a := xa.toInt) (b := 0) hC.x hC.b rfl rfl dX10_amount_1 (by decide) (fun c_1 => ?_) (fun c_1 => ?_)
  · skip
    refine lv_iload_n hC.x hC.b dX10_amount_9 rfl (lv_at hl 0 rfl) ?_
    exact reti hC hK hR hS ⟨rfl, (trivial)⟩ dX10_amount_10
  · skip
    refine lv_iload_n hC.x hC.b dX10_amount_4 rfl (lv_at hl 0 rfl) ?_
    refine lv_ineg hC.x hC.b dX10_amount_5 ?_
    refine lv_goto (tgt := 10) hC.x hC.b dX10_amount_6 (by decide) ?_
    exact reti hC hK hR hS ⟨rfl, (trivial)⟩ dX10_amount_10

abbrev po_X10_byGains (σ : SI) (τ : SL) (pl : Int32) (q : Nat) : Int32 → SI × SL → Prop := fun v u => u = (σ, τ) ∧ (((v = (1)) ∧ (1 ≤ (σ 35 29).toInt)) ∨ ((v = (0))))
set_option maxRecDepth 100000 in
set_option maxHeartbeats 4000000 in
theorem c_X10_byGains (l : Launch) {G : Gx} {A : Nat → Prop} (hG : GOk G A) (σ : SI) (τ : SL) (pl : Int32) (q : Nat) (hp_q : pl.toInt.toNat = q) (hnw : 0 ≤ (σ 35 29).toInt ∧ (σ 35 29).toInt ≤ 200) (hin : 0 ≤ pl.toInt ∧ pl.toInt < 24) : MI l G A 3 yX10_byGains cX10_byGains 4 (some .boolean) [.ref (G.2.1 35), .int pl] (σ, τ) (po_X10_byGains σ τ pl q) := by
  refine met_of (own := RX10) (by decide +kernel) rfl [(0, .ref (G.2.1 35)), (1, .int pl)] rfl (Nat.le_of_ble_eq_true rfl) ?_
  intro p e s m args below meth c ls hC hK hR hl
  have hS : va_S A s.heap s.heap [] := va_S.rf
  refine lv_iconst (v := 0) hC.x hC.b dX10_byGains_0 (by decide) ?_
  refine lv_istore_n (lv' := [(2, .int (0 : Int32)), (0, .ref (G.2.1 35)), (1, .int pl)]) hC.x hC.b dX10_byGains_1 rfl hl (by decide) rfl (fun ls hl => ?_)
  refine lv_aload_n hC.x hC.b dX10_byGains_2 rfl (lv_at hl 1 rfl) ?_
  refine rget hC hK hR (ct_model G _ _) rfl uin_X10 29 (by decide) TF_X10_137 rfl dX10_byGains_3 ?_
  refine lv_aload_n hC.x hC.b dX10_byGains_6 rfl (lv_at hl 1 rfl) ?_
  refine rget hC hK hR (ct_model G _ _) rfl uin_X10 1 (by decide) TF_X10_13 rfl dX10_byGains_7 ?_
  refine lv_iload_n hC.x hC.b dX10_byGains_10 rfl (lv_at hl 2 rfl) ?_
  refine ald hC hK hR (ct_m_one G _ _) rfl (by omega) (by omega) hp_q dX10_byGains_11 ?_
  refine lv_isub hC.x hC.b dX10_byGains_12 ?_
  refine lv_istore_n (lv' := [(3, .int ((σ 35 29) - (σ 37 q))), (2, .int (0 : Int32)), (0, .ref (G.2.1 35)), (1, .int pl)]) hC.x hC.b dX10_byGains_13 rfl hl (by decide) rfl (fun ls hl => ?_)
  have L_14 : ∀ (F : Nat) (x2 : Int32) (t : Int32), (((σ 35 29).toInt - t.toInt).toNat) < F → ∀ (H : Heap) (locs : List Loc) (ls : Array Slot), RepH G σ τ H → va_S A s.heap H locs → lv_has ls 4 [(0, .ref (G.2.1 35)), (1, .int pl), (2, .int x2), (3, .int t)] → W p l e (rmD 3) s m args below meth c H locs 0 0 (MQ below (va_Qi (po_X10_byGains σ τ pl q) (BU G) A) args s 0 0 A) (F0 m 14 ls []) := by
    intro F
    induction F with
    | zero => intro x2 t hm; exact absurd hm (Nat.not_lt_zero _)
    | succ F ih_14 =>
      intro x2 t hm_14  H locs ls hR hS hl
      have tlo := i32_lo t
      refine lv_iload_n hC.x hC.b dX10_byGains_14 rfl (lv_at hl 3 rfl) ?_
      refine lv_aload_n hC.x hC.b dX10_byGains_15 rfl (lv_at hl 0 rfl) ?_
      refine rget hC hK hR (ct_model G _ _) rfl uin_X10 29 (by decide) TF_X10_137 rfl dX10_byGains_16 ?_
      refine bi_ge (tgt := 45) (a := t.toInt) (b := (σ 35 29).toInt) hC.x hC.b rfl rfl dX10_byGains_19 (by decide) (fun c_1 => ?_) (fun c_1 => ?_)
      · skip
        refine lv_aload_n hC.x hC.b dX10_byGains_45 rfl (lv_at hl 0 rfl) ?_
        refine rget hC hK hR (ct_model G _ _) rfl uin_X10 0 (by decide) TF_X10_9 rfl dX10_byGains_46 ?_
        refine lv_iload_n hC.x hC.b dX10_byGains_49 rfl (lv_at hl 1 rfl) ?_
        refine ald hC hK hR (ct_m_kinds G _ _) rfl (by omega) (by omega) hp_q dX10_byGains_50 ?_
        refine lv_iconst (v := 2) hC.x hC.b dX10_byGains_51 (by decide) ?_
        refine bi_ne (tgt := 78) (a := (σ 36 q).toInt) (b := 2) hC.x hC.b rfl rfl dX10_byGains_52 (by decide) (fun c_2 => ?_) (fun c_2 => ?_)
        · skip
          refine lv_iconst (v := 0) hC.x hC.b dX10_byGains_78 (by decide) ?_
          exact retz hC hK hR hS (Or.inl rfl) ⟨rfl, (by first | exact Or.inr ((by first | rfl | omega)) | exact False.elim (by omega))⟩ dX10_byGains_79
        · skip
          refine lv_iload_n hC.x hC.b dX10_byGains_55 rfl (lv_at hl 2 rfl) ?_
          refine lv_iconst (v := 1) hC.x hC.b dX10_byGains_56 (by decide) ?_
          refine bi_le (tgt := 78) (a := x2.toInt) (b := 1) hC.x hC.b rfl rfl dX10_byGains_57 (by decide) (fun c_3 => ?_) (fun c_3 => ?_)
          · skip
            refine lv_iconst (v := 0) hC.x hC.b dX10_byGains_78 (by decide) ?_
            exact retz hC hK hR hS (Or.inl rfl) ⟨rfl, (by first | exact Or.inr ((by first | rfl | omega)) | exact False.elim (by omega))⟩ dX10_byGains_79
          · skip
            refine lv_aload_n hC.x hC.b dX10_byGains_60 rfl (lv_at hl 0 rfl) ?_
            refine lv_aload_n hC.x hC.b dX10_byGains_61 rfl (lv_at hl 0 rfl) ?_
            refine rget hC hK hR (ct_model G _ _) rfl uin_X10 29 (by decide) TF_X10_137 rfl dX10_byGains_62 ?_
            refine lv_iconst (v := 1) hC.x hC.b dX10_byGains_65 (by decide) ?_
            refine lv_isub hC.x hC.b dX10_byGains_66 ?_
            have pr_4 : ((σ 35 29) - (1 : Int32)).toInt = ((σ 35 29).toInt - 1) := subI rfl rfl (by omega) (by omega)
            refine lv_iload_n hC.x hC.b dX10_byGains_67 rfl (lv_at hl 1 rfl) ?_
            have av_5 : ((σ 35 29) - (1 : Int32)).toInt = ((σ 35 29).toInt - 1) := pr_4
            refine goip (runV (As := [.int ((σ 35 29) - (1 : Int32)), .int pl]) (rest := []) hC hK hR hl.1 (c_X10_isX l hG σ τ ((σ 35 29) - (1 : Int32)) (((σ 35 29).toInt - 1).toNat) (by first | rfl | (rw [show ((σ 35 29) - (1 : Int32)).toInt = ((σ 35 29).toInt - 1) from pr_4]; done) | (rw [show ((σ 35 29) - (1 : Int32)).toInt = ((σ 35 29).toInt - 1) from pr_4]; exact rfl)) pl q (by first | rfl | (rw [show pl.toInt = pl.toInt from rfl]; done) | (rw [show pl.toInt = pl.toInt from rfl]; exact hp_q)) (by first | assumption | omega) (by omega)) (call_b hC.ts TC_X10_isX TN_X10 TM_X10_172 hd_X10_isX ⟨Nat.le_of_ble_eq_true rfl, Nat.le_of_ble_eq_true rfl⟩) TI_X10_isX TS_X10_isX (ct_model G _ _) rfl rfl rfl (Nat.le_of_ble_eq_true rfl) dX10_byGains_68 ⟨Nat.le_of_ble_eq_true rfl, Nat.le_of_ble_eq_true rfl⟩) hS (fun v_6 H locs w_7 hR hS => ?_)
            rcases w_7 with ⟨rfl, f_8, f_9⟩ | rfl
            · skip
              refine bz_eq (tgt := 78) (a := 1) (b := 0) hC.x hC.b rfl rfl dX10_byGains_71 (by decide) (fun c_10 => absurd c_10 (by decide)) (fun _ => ?_)
              refine lv_iconst (v := 1) hC.x hC.b dX10_byGains_74 (by decide) ?_
              refine lv_goto (tgt := 79) hC.x hC.b dX10_byGains_75 (by decide) ?_
              exact retz hC hK hR hS (Or.inr rfl) ⟨rfl, (by first | exact Or.inl (⟨by first | rfl | omega, by first | omega | assumption⟩) | exact False.elim (by omega))⟩ dX10_byGains_79
            · skip
              refine bz_eq (tgt := 78) (a := 0) (b := 0) hC.x hC.b rfl rfl dX10_byGains_71 (by decide) (fun _ => ?_) (fun c_11 => absurd c_11 (by decide))
              refine lv_iconst (v := 0) hC.x hC.b dX10_byGains_78 (by decide) ?_
              exact retz hC hK hR hS (Or.inl rfl) ⟨rfl, (by first | exact Or.inr ((by first | rfl | omega)) | exact False.elim (by omega))⟩ dX10_byGains_79
      · skip
        refine lv_iload_n hC.x hC.b dX10_byGains_22 rfl (lv_at hl 2 rfl) ?_
        refine lv_aload_n hC.x hC.b dX10_byGains_23 rfl (lv_at hl 0 rfl) ?_
        refine lv_iload_n hC.x hC.b dX10_byGains_24 rfl (lv_at hl 3 rfl) ?_
        refine lv_iload_n hC.x hC.b dX10_byGains_25 rfl (lv_at hl 1 rfl) ?_
        refine goip (runV (As := [.int t, .int pl]) (rest := [.int x2]) hC hK hR hl.1 (c_X10_isGain l hG σ τ t t.toInt.toNat rfl pl q (by first | rfl | (rw [show pl.toInt = pl.toInt from rfl]; done) | (rw [show pl.toInt = pl.toInt from rfl]; exact hp_q)) (by first | assumption | omega) (by omega)) (call_b hC.ts TC_X10_isGain TN_X10 TM_X10_179 hd_X10_isGain ⟨Nat.le_of_ble_eq_true rfl, Nat.le_of_ble_eq_true rfl⟩) TI_X10_isGain TS_X10_isGain (ct_model G _ _) rfl rfl rfl (Nat.le_of_ble_eq_true rfl) dX10_byGains_26 ⟨Nat.le_of_ble_eq_true rfl, Nat.le_of_ble_eq_true rfl⟩) hS (fun v_12 H locs w_13 hR hS => ?_)
        rcases w_13 with ⟨rfl, f_14, f_15, f_16⟩ | rfl
        · skip
          refine bz_eq (tgt := 36) (a := 1) (b := 0) hC.x hC.b rfl rfl dX10_byGains_29 (by decide) (fun c_17 => absurd c_17 (by decide)) (fun _ => ?_)
          refine lv_iconst (v := 1) hC.x hC.b dX10_byGains_32 (by decide) ?_
          refine lv_goto (tgt := 37) hC.x hC.b dX10_byGains_33 (by decide) ?_
          refine lv_iadd hC.x hC.b dX10_byGains_37 ?_
          refine lv_istore_n (lv' := [(2, .int (x2 + (1 : Int32))), (0, .ref (G.2.1 35)), (1, .int pl), (3, .int t)]) hC.x hC.b dX10_byGains_38 rfl hl (by decide) rfl (fun ls hl => ?_)
          obtain ⟨x_18, ex_19⟩ : ∃ y : Int32, y = t + 1 := ⟨_, rfl⟩
          have pr_20 : x_18.toInt = t.toInt + (1) := by rw [ex_19]; exact addI rfl rfl (by omega) (by omega)
          refine lv_iinc (v := x_18) (lv' := [(3, .int x_18), (2, .int (x2 + (1 : Int32))), (0, .ref (G.2.1 35)), (1, .int pl)]) hC.x hC.b dX10_byGains_39 hl (k := 3) rfl ex_19.symm (by decide) rfl (fun ls hl => ?_)
          refine lv_goto (tgt := 14) hC.x hC.b dX10_byGains_42 (by decide) ?_
          exact ih_14 (x2 + (1 : Int32)) x_18 (by omega)  _ _ _ hR hS (lv_sub hl [2, 3, 1, 0] rfl)
        · skip
          refine bz_eq (tgt := 36) (a := 0) (b := 0) hC.x hC.b rfl rfl dX10_byGains_29 (by decide) (fun _ => ?_) (fun c_21 => absurd c_21 (by decide))
          refine lv_iconst (v := 0) hC.x hC.b dX10_byGains_36 (by decide) ?_
          refine lv_iadd hC.x hC.b dX10_byGains_37 ?_
          refine lv_istore_n (lv' := [(2, .int (x2 + (0 : Int32))), (0, .ref (G.2.1 35)), (1, .int pl), (3, .int t)]) hC.x hC.b dX10_byGains_38 rfl hl (by decide) rfl (fun ls hl => ?_)
          obtain ⟨x_22, ex_23⟩ : ∃ y : Int32, y = t + 1 := ⟨_, rfl⟩
          have pr_24 : x_22.toInt = t.toInt + (1) := by rw [ex_23]; exact addI rfl rfl (by omega) (by omega)
          refine lv_iinc (v := x_22) (lv' := [(3, .int x_22), (2, .int (x2 + (0 : Int32))), (0, .ref (G.2.1 35)), (1, .int pl)]) hC.x hC.b dX10_byGains_39 hl (k := 3) rfl ex_23.symm (by decide) rfl (fun ls hl => ?_)
          refine lv_goto (tgt := 14) hC.x hC.b dX10_byGains_42 (by decide) ?_
          exact ih_14 (x2 + (0 : Int32)) x_22 (by omega)  _ _ _ hR hS (lv_sub hl [2, 3, 1, 0] rfl)
  exact L_14 _ (0 : Int32) ((σ 35 29) - (σ 37 q)) (Nat.lt_succ_self _)  _ _ _ hR hS (lv_sub hl [2, 3, 1, 0] rfl)

abbrev po_X10_root (σ : SI) (τ : SL) : Int32 → SI × SL → Prop := fun v u => u = (σ, τ) ∧ (((-1 ≤ v.toInt ∧ v.toInt < 24)))
set_option maxRecDepth 100000 in
set_option maxHeartbeats 4000000 in
theorem c_X10_root (l : Launch) {G : Gx} {A : Nat → Prop} (hG : GOk G A) (σ : SI) (τ : SL) : MI l G A 3 yX10_root cX10_root 3 (some .int) [.ref (G.2.1 35)] (σ, τ) (po_X10_root σ τ ) := by
  refine met_of (own := RX10) (by decide +kernel) rfl [(0, .ref (G.2.1 35))] rfl (Nat.le_of_ble_eq_true rfl) ?_
  intro p e s m args below meth c ls hC hK hR hl
  have hS : va_S A s.heap s.heap [] := va_S.rf
  refine lv_iconst (v := (-1)) hC.x hC.b dX10_root_0 (by decide) ?_
  refine lv_istore_n (lv' := [(1, .int (-1 : Int32)), (0, .ref (G.2.1 35))]) hC.x hC.b dX10_root_1 rfl hl (by decide) rfl (fun ls hl => ?_)
  refine lv_bipush (v := 23) hC.x hC.b dX10_root_2 (by decide) ?_
  refine lv_istore_n (lv' := [(2, .int (23 : Int32)), (1, .int (-1 : Int32)), (0, .ref (G.2.1 35))]) hC.x hC.b dX10_root_4 rfl hl (by decide) rfl (fun ls hl => ?_)
  have L_5 : ∀ (F : Nat) (x1 : Int32) (t : Int32), ((t.toInt + 1).toNat) < F → (-1 ≤ t.toInt ∧ t.toInt < 24) → (-1 ≤ x1.toInt ∧ x1.toInt < 24) → ∀ (H : Heap) (locs : List Loc) (ls : Array Slot), RepH G σ τ H → va_S A s.heap H locs → lv_has ls 3 [(0, .ref (G.2.1 35)), (1, .int x1), (2, .int t)] → W p l e (rmD 3) s m args below meth c H locs 0 0 (MQ below (va_Qi (po_X10_root σ τ ) (BU G) A) args s 0 0 A) (F0 m 5 ls []) := by
    intro F
    induction F with
    | zero => intro x1 t hm; exact absurd hm (Nat.not_lt_zero _)
    | succ F ih_5 =>
      intro x1 t hm_5 hi0_5 hi1_5 H locs ls hR hS hl
      refine lv_iload_n hC.x hC.b dX10_root_5 rfl (lv_at hl 2 rfl) ?_
      refine bz_lt (tgt := 29) (a := t.toInt) (b := 0) hC.x hC.b rfl rfl dX10_root_6 (by decide) (fun c_1 => ?_) (fun c_1 => ?_)
      · skip
        refine lv_iload_n hC.x hC.b dX10_root_29 rfl (lv_at hl 1 rfl) ?_
        exact reti hC hK hR hS ⟨rfl, (by first | omega | assumption)⟩ dX10_root_30
      · skip
        refine lv_aload_n hC.x hC.b dX10_root_9 rfl (lv_at hl 0 rfl) ?_
        refine lv_iload_n hC.x hC.b dX10_root_10 rfl (lv_at hl 2 rfl) ?_
        refine goip (runV (As := [.int t]) (rest := []) hC hK hR hl.1 (c_X10_isTaken l hG σ τ t t.toInt.toNat rfl ) (call_b hC.ts TC_X10_isTaken TN_X10 TM_X10_219 hd_X10_isTaken ⟨Nat.le_of_ble_eq_true rfl, Nat.le_of_ble_eq_true rfl⟩) TI_X10_isTaken TS_X10_isTaken (ct_model G _ _) rfl rfl rfl (Nat.le_of_ble_eq_true rfl) dX10_root_11 ⟨Nat.le_of_ble_eq_true rfl, Nat.le_of_ble_eq_true rfl⟩) hS (fun v_2 H locs w_3 hR hS => ?_)
        rcases w_3 with ⟨rfl, f_4, f_5, f_6, f_7⟩ | ⟨rfl, f_8⟩
        · skip
          refine bz_eq (tgt := 21) (a := 1) (b := 0) hC.x hC.b rfl rfl dX10_root_14 (by decide) (fun c_9 => absurd c_9 (by decide)) (fun _ => ?_)
          refine lv_iload_n hC.x hC.b dX10_root_17 rfl (lv_at hl 2 rfl) ?_
          refine lv_goto (tgt := 22) hC.x hC.b dX10_root_18 (by decide) ?_
          refine lv_istore_n (lv' := [(1, .int t), (0, .ref (G.2.1 35)), (2, .int t)]) hC.x hC.b dX10_root_22 rfl hl (by decide) rfl (fun ls hl => ?_)
          obtain ⟨x_10, ex_11⟩ : ∃ y : Int32, y = t + (-1) := ⟨_, rfl⟩
          have pr_12 : x_10.toInt = t.toInt + (-1) := by rw [ex_11]; exact addI rfl rfl (by omega) (by omega)
          refine lv_iinc (v := x_10) (lv' := [(2, .int x_10), (1, .int t), (0, .ref (G.2.1 35))]) hC.x hC.b dX10_root_23 hl (k := 2) rfl ex_11.symm (by decide) rfl (fun ls hl => ?_)
          refine lv_goto (tgt := 5) hC.x hC.b dX10_root_26 (by decide) ?_
          exact ih_5 t x_10 (by omega) (by first | omega | assumption) (by first | omega | assumption) _ _ _ hR hS (lv_sub hl [2, 1, 0] rfl)
        · skip
          refine bz_eq (tgt := 21) (a := 0) (b := 0) hC.x hC.b rfl rfl dX10_root_14 (by decide) (fun _ => ?_) (fun c_13 => absurd c_13 (by decide))
          refine lv_iload_n hC.x hC.b dX10_root_21 rfl (lv_at hl 1 rfl) ?_
          refine lv_istore_n (lv' := [(1, .int x1), (0, .ref (G.2.1 35)), (2, .int t)]) hC.x hC.b dX10_root_22 rfl hl (by decide) rfl (fun ls hl => ?_)
          obtain ⟨x_14, ex_15⟩ : ∃ y : Int32, y = t + (-1) := ⟨_, rfl⟩
          have pr_16 : x_14.toInt = t.toInt + (-1) := by rw [ex_15]; exact addI rfl rfl (by omega) (by omega)
          refine lv_iinc (v := x_14) (lv' := [(2, .int x_14), (1, .int x1), (0, .ref (G.2.1 35))]) hC.x hC.b dX10_root_23 hl (k := 2) rfl ex_15.symm (by decide) rfl (fun ls hl => ?_)
          refine lv_goto (tgt := 5) hC.x hC.b dX10_root_26 (by decide) ?_
          exact ih_5 x1 x_14 (by omega) (by first | omega | assumption) (by first | omega | assumption) _ _ _ hR hS (lv_sub hl [2, 1, 0] rfl)
  exact L_5 _ (-1 : Int32) (23 : Int32) (Nat.lt_succ_self _) (by decide) (by decide) _ _ _ hR hS (lv_sub hl [2, 1, 0] rfl)

abbrev po_X10_steps (σ : SI) (τ : SL) (pl : Int32) (q : Nat) (ba : Int32) : SI × SL → Prop := fun u => ((MRel (fun k => k = 41 ∨ k = 45 ∨ (65 ≤ k ∧ k ≤ 67)) (fun j => j = 37) σ u.1) ∧ (0 ≤ (u.1 35 37).toInt ∧ (u.1 35 37).toInt ≤ 100))
set_option maxRecDepth 100000 in
set_option maxHeartbeats 4000000 in
theorem c_X10_steps (l : Launch) {G : Gx} {A : Nat → Prop} (hG : GOk G A) (σ : SI) (τ : SL) (pl : Int32) (q : Nat) (hp_q : pl.toInt.toNat = q) (ba : Int32) (hnw : 0 ≤ (σ 35 29).toInt ∧ (σ 35 29).toInt ≤ 200) (hin : 0 ≤ pl.toInt ∧ pl.toInt < 24) (hsn : 0 ≤ (σ 35 37).toInt ∧ (σ 35 37).toInt ≤ 100) : MV l G A 0 yX10_steps cX10_steps 3 none [.ref (G.2.1 35), .int pl, .int ba] (σ, τ) (po_X10_steps σ τ pl q ba) := by
  refine met_of (own := RX10) (by decide +kernel) rfl [(0, .ref (G.2.1 35)), (1, .int pl), (2, .int ba)] rfl (Nat.le_of_ble_eq_true rfl) ?_
  intro p e s m args below meth c ls hC hK hR hl
  have hS : va_S A s.heap s.heap [] := va_S.rf
  refine lv_aload_n hC.x hC.b dX10_steps_0 rfl (lv_at hl 0 rfl) ?_
  refine rget hC hK hR (ct_model G _ _) rfl uin_X10 5 (by decide) TF_X10_26 rfl dX10_steps_1 ?_
  refine lv_iload_n hC.x hC.b dX10_steps_4 rfl (lv_at hl 1 rfl) ?_
  refine lv_iconst (v := 1) hC.x hC.b dX10_steps_5 (by decide) ?_
  refine zast hC hK hG hR hS (fun _ => ct_m_isOut G _ _) rfl (by omega) (by omega) hp_q (Or.inr rfl) dX10_steps_6 (fun s_1 es_2 H locs hR hS => ?_)
  refine lv_aload_n hC.x hC.b dX10_steps_7 rfl (lv_at hl 0 rfl) ?_
  refine rget hC hK hR (ct_model G _ _) rfl uin_X10 9 (by decide) TF_X10_38 rfl dX10_steps_8 ?_
  refine lv_iload_n hC.x hC.b dX10_steps_11 rfl (lv_at hl 1 rfl) ?_
  refine lv_dup2_11 hC.x hC.b dX10_steps_12 rfl rfl ?_
  refine ald hC hK hR (ct_m_stepMany G _ _) rfl (by omega) (by omega) hp_q dX10_steps_13 ?_
  have rd_3 : (s_1 45 q).toInt = (σ 45 q).toInt := congrArg Int32.toInt (show s_1 45 q = σ 45 q from (by rw [es_2]; exact up2_o (by omega)))
  refine lv_iconst (v := 1) hC.x hC.b dX10_steps_14 (by decide) ?_
  refine lv_iadd hC.x hC.b dX10_steps_15 ?_
  refine ast hC hK hG hR hS (fun _ => ct_m_stepMany G _ _) rfl (by omega) (by omega) hp_q dX10_steps_16 (fun s_4 es_5 H locs hR hS => ?_)
  refine lv_aload_n hC.x hC.b dX10_steps_17 rfl (lv_at hl 0 rfl) ?_
  refine rget hC hK hR (ct_model G _ _) rfl uin_X10 37 (by decide) TF_X10_254 rfl dX10_steps_18 ?_
  have rd_6 : (s_4 35 37).toInt = (σ 35 37).toInt := congrArg Int32.toInt (Eq.trans (show s_4 35 37 = s_1 35 37 from (by rw [es_5]; exact up2_o (by omega))) (show s_1 35 37 = σ 35 37 from (by rw [es_2]; exact up2_o (by omega))))
  refine lv_bipush (v := 100) hC.x hC.b dX10_steps_21 (by decide) ?_
  refine bi_ge (tgt := 71) (a := (s_4 35 37).toInt) (b := 100) hC.x hC.b rfl rfl dX10_steps_23 (by decide) (fun c_7 => ?_) (fun c_7 => ?_)
  · skip
    have rd_8 : (s_4 35 37).toInt = (σ 35 37).toInt := congrArg Int32.toInt (Eq.trans (show s_4 35 37 = s_1 35 37 from (by rw [es_5]; exact up2_o (by omega))) (show s_1 35 37 = σ 35 37 from (by rw [es_2]; exact up2_o (by omega))))
    exact retv hC hK hR hS (⟨by exact (by rw [es_5]; exact MRel.up ((by rw [es_2]; exact MRel.up (MRel.rf) (by omega) (by first | omega | (dsimp only; omega)))) (by omega) (by first | omega | (dsimp only; omega))), by first | omega | (dsimp only; omega)⟩) dX10_steps_71
  · skip
    refine lv_aload_n hC.x hC.b dX10_steps_26 rfl (lv_at hl 0 rfl) ?_
    refine rget hC hK hR (ct_model G _ _) rfl uin_X10 34 (by decide) TF_X10_108 rfl dX10_steps_27 ?_
    refine lv_aload_n hC.x hC.b dX10_steps_30 rfl (lv_at hl 0 rfl) ?_
    refine rget hC hK hR (ct_model G _ _) rfl uin_X10 37 (by decide) TF_X10_254 rfl dX10_steps_31 ?_
    have rd_9 : (s_4 35 37).toInt = (σ 35 37).toInt := congrArg Int32.toInt (Eq.trans (show s_4 35 37 = s_1 35 37 from (by rw [es_5]; exact up2_o (by omega))) (show s_1 35 37 = σ 35 37 from (by rw [es_2]; exact up2_o (by omega))))
    refine lv_aload_n hC.x hC.b dX10_steps_34 rfl (lv_at hl 0 rfl) ?_
    refine rget hC hK hR (ct_model G _ _) rfl uin_X10 29 (by decide) TF_X10_137 rfl dX10_steps_35 ?_
    have rd_10 : (s_4 35 29).toInt = (σ 35 29).toInt := congrArg Int32.toInt (Eq.trans (show s_4 35 29 = s_1 35 29 from (by rw [es_5]; exact up2_o (by omega))) (show s_1 35 29 = σ 35 29 from (by rw [es_2]; exact up2_o (by omega))))
    refine lv_iconst (v := 1) hC.x hC.b dX10_steps_38 (by decide) ?_
    refine lv_isub hC.x hC.b dX10_steps_39 ?_
    have pr_11 : ((s_4 35 29) - (1 : Int32)).toInt = ((s_4 35 29).toInt - 1) := subI rfl rfl (by omega) (by omega)
    refine ast hC hK hG hR hS (fun _ => ct_m_stepHour G _ _) rfl (by omega) (by omega) rfl dX10_steps_40 (fun s_12 es_13 H locs hR hS => ?_)
    refine lv_aload_n hC.x hC.b dX10_steps_41 rfl (lv_at hl 0 rfl) ?_
    refine rget hC hK hR (ct_model G _ _) rfl uin_X10 35 (by decide) TF_X10_111 rfl dX10_steps_42 ?_
    refine lv_aload_n hC.x hC.b dX10_steps_45 rfl (lv_at hl 0 rfl) ?_
    refine rget hC hK hR (ct_model G _ _) rfl uin_X10 37 (by decide) TF_X10_254 rfl dX10_steps_46 ?_
    have rd_14 : (s_12 35 37).toInt = (σ 35 37).toInt := congrArg Int32.toInt (Eq.trans (show s_12 35 37 = s_4 35 37 from (by rw [es_13]; exact up2_o (by omega))) (Eq.trans (show s_4 35 37 = s_1 35 37 from (by rw [es_5]; exact up2_o (by omega))) (show s_1 35 37 = σ 35 37 from (by rw [es_2]; exact up2_o (by omega)))))
    refine lv_iload_n hC.x hC.b dX10_steps_49 rfl (lv_at hl 1 rfl) ?_
    refine ast hC hK hG hR hS (fun _ => ct_m_stepPlace G _ _) rfl (by omega) (by omega) rfl dX10_steps_50 (fun s_15 es_16 H locs hR hS => ?_)
    refine lv_aload_n hC.x hC.b dX10_steps_51 rfl (lv_at hl 0 rfl) ?_
    refine rget hC hK hR (ct_model G _ _) rfl uin_X10 36 (by decide) TF_X10_114 rfl dX10_steps_52 ?_
    refine lv_aload_n hC.x hC.b dX10_steps_55 rfl (lv_at hl 0 rfl) ?_
    refine rget hC hK hR (ct_model G _ _) rfl uin_X10 37 (by decide) TF_X10_254 rfl dX10_steps_56 ?_
    have rd_17 : (s_15 35 37).toInt = (σ 35 37).toInt := congrArg Int32.toInt (Eq.trans (show s_15 35 37 = s_12 35 37 from (by rw [es_16]; exact up2_o (by omega))) (Eq.trans (show s_12 35 37 = s_4 35 37 from (by rw [es_13]; exact up2_o (by omega))) (Eq.trans (show s_4 35 37 = s_1 35 37 from (by rw [es_5]; exact up2_o (by omega))) (show s_1 35 37 = σ 35 37 from (by rw [es_2]; exact up2_o (by omega))))))
    refine lv_iload_n hC.x hC.b dX10_steps_59 rfl (lv_at hl 2 rfl) ?_
    refine ast hC hK hG hR hS (fun _ => ct_m_stepMissed G _ _) rfl (by omega) (by omega) rfl dX10_steps_60 (fun s_18 es_19 H locs hR hS => ?_)
    refine lv_aload_n hC.x hC.b dX10_steps_61 rfl (lv_at hl 0 rfl) ?_
    refine lv_dup hC.x hC.b dX10_steps_62 rfl ?_
    refine rget hC hK hR (ct_model G _ _) rfl uin_X10 37 (by decide) TF_X10_254 rfl dX10_steps_63 ?_
    have rd_20 : (s_18 35 37).toInt = (σ 35 37).toInt := congrArg Int32.toInt (Eq.trans (show s_18 35 37 = s_15 35 37 from (by rw [es_19]; exact up2_o (by omega))) (Eq.trans (show s_15 35 37 = s_12 35 37 from (by rw [es_16]; exact up2_o (by omega))) (Eq.trans (show s_12 35 37 = s_4 35 37 from (by rw [es_13]; exact up2_o (by omega))) (Eq.trans (show s_4 35 37 = s_1 35 37 from (by rw [es_5]; exact up2_o (by omega))) (show s_1 35 37 = σ 35 37 from (by rw [es_2]; exact up2_o (by omega)))))))
    refine lv_iconst (v := 1) hC.x hC.b dX10_steps_66 (by decide) ?_
    refine lv_iadd hC.x hC.b dX10_steps_67 ?_
    have pr_21 : ((s_18 35 37) + (1 : Int32)).toInt = ((s_18 35 37).toInt + 1) := addI rfl rfl (by omega) (by omega)
    refine rputi hC hK hG hR hS (ct_model G _ _) rfl uin_X10 tyX10 tyX10_ok nmX10 37 (by decide) TF_X10_254 rfl (Or.inl rfl) (Nat.le_of_ble_eq_true rfl) rfl (ct_model G _ _) dX10_steps_68 (fun s_23 es_22 H locs hR hS => ?_)
    have rd_24 : (s_23 35 37).toInt = ((s_18 35 37) + (1 : Int32)).toInt := congrArg Int32.toInt (show s_23 35 37 = ((s_18 35 37) + (1 : Int32)) from (by rw [es_22]; exact up2_s))
    exact retv hC hK hR hS (⟨by exact (by rw [es_22]; exact MRel.upm ((by rw [es_19]; exact MRel.up ((by rw [es_16]; exact MRel.up ((by rw [es_13]; exact MRel.up ((by rw [es_5]; exact MRel.up ((by rw [es_2]; exact MRel.up (MRel.rf) (by omega) (by first | omega | (dsimp only; omega)))) (by omega) (by first | omega | (dsimp only; omega)))) (by omega) (by first | omega | (dsimp only; omega)))) (by omega) (by first | omega | (dsimp only; omega)))) (by omega) (by first | omega | (dsimp only; omega)))) (by first | omega | (dsimp only; omega))), by first | omega | (dsimp only; omega)⟩) dX10_steps_71
