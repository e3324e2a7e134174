abbrev po_X10_isIn (σ : SI) (τ : SL) (xa : Int32) (la : Int32) (ma : Int32) : Int32 → SI × SL → Prop := fun v u => u = (σ, τ) ∧ (((v = (1)) ∧ (la.toInt ≤ xa.toInt) ∧ (xa.toInt ≤ ma.toInt)) ∨ ((v = (0)) ∧ (¬ (la.toInt ≤ xa.toInt ∧ xa.toInt ≤ ma.toInt))))
set_option maxRecDepth 100000 in
set_option maxHeartbeats 4000000 in
theorem c_X10_isIn (l : Launch) {G : Gx} {A : Nat → Prop} (hG : GOk G A) (σ : SI) (τ : SL) (xa : Int32) (la : Int32) (ma : Int32) : MI l G A 0 yX10_isIn cX10_isIn 3 (some .boolean) [.int xa, .int la, .int ma] (σ, τ) (po_X10_isIn σ τ xa la ma) := by
  refine met_of (own := RX10) (by decide +kernel) rfl [(0, .int xa), (1, .int la), (2, .int ma)] rfl (Nat.le_of_ble_eq_true rfl) ?_
  intro p e s m args below meth c ls hC hK hR hl
  have hS : va_S A s.heap s.heap [] := va_S.rf
  refine lv_iload_n hC.x hC.b dX10_isIn_0 rfl (lv_at hl 0 rfl) ?_
  refine lv_iload_n hC.x hC.b dX10_isIn_1 rfl (lv_at hl 1 rfl) ?_
  refine bi_lt (tgt := 14) (a := xa.toInt) (b := la.toInt) hC.x hC.b rfl rfl dX10_isIn_2 (by decide) (fun c_1 => ?_) (fun c_1 => ?_)
  · skip
    refine lv_iconst (v := 0) hC.x hC.b dX10_isIn_14 (by decide) ?_
    exact retz hC hK hR hS (Or.inl rfl) ⟨rfl, (by first | exact Or.inr ((⟨by first | rfl | omega, by first | omega | assumption⟩)) | exact False.elim (by omega))⟩ dX10_isIn_15
  · skip
    refine lv_iload_n hC.x hC.b dX10_isIn_5 rfl (lv_at hl 0 rfl) ?_
    refine lv_iload_n hC.x hC.b dX10_isIn_6 rfl (lv_at hl 2 rfl) ?_
    refine bi_gt (tgt := 14) (a := xa.toInt) (b := ma.toInt) hC.x hC.b rfl rfl dX10_isIn_7 (by decide) (fun c_2 => ?_) (fun c_2 => ?_)
    · skip
      refine lv_iconst (v := 0) hC.x hC.b dX10_isIn_14 (by decide) ?_
      exact retz hC hK hR hS (Or.inl rfl) ⟨rfl, (by first | exact Or.inr ((⟨by first | rfl | omega, by first | omega | assumption⟩)) | exact False.elim (by omega))⟩ dX10_isIn_15
    · skip
      refine lv_iconst (v := 1) hC.x hC.b dX10_isIn_10 (by decide) ?_
      refine lv_goto (tgt := 15) hC.x hC.b dX10_isIn_11 (by decide) ?_
      exact retz hC hK hR hS (Or.inr rfl) ⟨rfl, (by first | exact Or.inl (⟨by first | rfl | omega, by first | omega | assumption, by first | omega | assumption⟩) | exact False.elim (by omega))⟩ dX10_isIn_15

abbrev po_X10_at (σ : SI) (τ : SL) (hr : Int32) (hq : Nat) (pl : Int32) (q : Nat) : Int32 → SI × SL → Prop := fun v u => u = (σ, τ) ∧ (((v = (nI (24 * hq + q)))))
set_option maxRecDepth 100000 in
set_option maxHeartbeats 4000000 in
theorem c_X10_at (l : Launch) {G : Gx} {A : Nat → Prop} (hG : GOk G A) (σ : SI) (τ : SL) (hr : Int32) (hq : Nat) (hp_hq : hr.toInt.toNat = hq) (pl : Int32) (q : Nat) (hp_q : pl.toInt.toNat = q) (hh : 0 ≤ hr.toInt ∧ hr.toInt ≤ 200) (hin : 0 ≤ pl.toInt ∧ pl.toInt < 24) : MI l G A 0 yX10_at cX10_at 3 (some .int) [.ref (G.2.1 35), .int hr, .int pl] (σ, τ) (po_X10_at σ τ hr hq pl q) := by
  refine met_of (own := RX10) (by decide +kernel) rfl [(0, .ref (G.2.1 35)), (1, .int hr), (2, .int pl)] rfl (Nat.le_of_ble_eq_true rfl) ?_
  intro p e s m args below meth c ls hC hK hR hl
  have hS : va_S A s.heap s.heap [] := va_S.rf
  refine lv_bipush (v := 24) hC.x hC.b dX10_at_0 (by decide) ?_
  refine lv_iload_n hC.x hC.b dX10_at_2 rfl (lv_at hl 1 rfl) ?_
  refine lv_imul hC.x hC.b dX10_at_3 ?_
  refine lv_iload_n hC.x hC.b dX10_at_4 rfl (lv_at hl 2 rfl) ?_
  refine lv_iadd hC.x hC.b dX10_at_5 ?_
  exact reti hC hK hR hS ⟨rfl, (by exact atE hh hin hp_hq hp_q)⟩ dX10_at_6

abbrev po_X10_isClock (σ : SI) (τ : SL) (pl : Int32) (q : Nat) : Int32 → SI × SL → Prop := fun v u => u = (σ, τ) ∧ (((v = (1)) ∧ (0 ≤ pl.toInt ∧ pl.toInt < 24) ∧ (0 ≤ (σ 36 q).toInt ∧ (σ 36 q).toInt ≤ 3)) ∨ ((v = (0)) ∧ (¬ (0 ≤ pl.toInt ∧ pl.toInt < 24 ∧ 0 ≤ (σ 36 q).toInt ∧ (σ 36 q).toInt ≤ 3))))
set_option maxRecDepth 100000 in
set_option maxHeartbeats 4000000 in
theorem c_X10_isClock (l : Launch) {G : Gx} {A : Nat → Prop} (hG : GOk G A) (σ : SI) (τ : SL) (pl : Int32) (q : Nat) (hp_q : pl.toInt.toNat = q) : MI l G A 1 yX10_isClock cX10_isClock 2 (some .boolean) [.ref (G.2.1 35), .int pl] (σ, τ) (po_X10_isClock σ τ pl q) := by
  refine met_of (own := RX10) (by decide +kernel) rfl [(0, .ref (G.2.1 35)), (1, .int pl)] rfl (Nat.le_of_ble_eq_true rfl) ?_
  intro p e s m args below meth c ls hC hK hR hl
  have hS : va_S A s.heap s.heap [] := va_S.rf
  refine lv_iload_n hC.x hC.b dX10_isClock_0 rfl (lv_at hl 1 rfl) ?_
  refine lv_iconst (v := 0) hC.x hC.b dX10_isClock_1 (by decide) ?_
  refine lv_bipush (v := 23) hC.x hC.b dX10_isClock_2 (by decide) ?_
  have av_1 : (0 : Int32).toInt = 0 := by decide
  have av_2 : (23 : Int32).toInt = 23 := by decide
  refine goip (runS (As := [.int pl, .int (0 : Int32), .int (23 : Int32)]) (rest := []) hC hK hR hl.1 (c_X10_isIn l hG σ τ pl (0 : Int32) (23 : Int32) ) (call_b hC.ts TC_X10_isIn TN_X10 TM_X10_129 hd_X10_isIn ⟨Nat.le_of_ble_eq_true rfl, Nat.le_of_ble_eq_true rfl⟩) TT_X10_isIn rfl rfl (Nat.le_of_ble_eq_true rfl) dX10_isClock_4 ⟨Nat.le_of_ble_eq_true rfl, Nat.le_of_ble_eq_true rfl⟩) hS (fun v_3 H locs w_4 hR hS => ?_)
  rcases w_4 with ⟨rfl, f_5, f_6⟩ | ⟨rfl, f_7⟩
  · skip
    refine bz_eq (tgt := 28) (a := 1) (b := 0) hC.x hC.b rfl rfl dX10_isClock_7 (by decide) (fun c_8 => absurd c_8 (by decide)) (fun _ => ?_)
    refine lv_aload_n hC.x hC.b dX10_isClock_10 rfl (lv_at hl 0 rfl) ?_
    refine rget hC hK hR (ct_model G _ _) rfl uin_X10 0 (by decide) TF_X10_9 rfl dX10_isClock_11 ?_
    refine lv_iload_n hC.x hC.b dX10_isClock_14 rfl (lv_at hl 1 rfl) ?_
    refine ald hC hK hR (ct_m_kinds G _ _) rfl (by omega) (by omega) hp_q dX10_isClock_15 ?_
    refine lv_iconst (v := 0) hC.x hC.b dX10_isClock_16 (by decide) ?_
    refine lv_iconst (v := 3) hC.x hC.b dX10_isClock_17 (by decide) ?_
    have av_9 : (0 : Int32).toInt = 0 := by decide
    have av_10 : (3 : Int32).toInt = 3 := by decide
    refine goip (runS (As := [.int (σ 36 q), .int (0 : Int32), .int (3 : Int32)]) (rest := []) hC hK hR hl.1 (c_X10_isIn l hG σ τ (σ 36 q) (0 : Int32) (3 : Int32) ) (call_b hC.ts TC_X10_isIn TN_X10 TM_X10_129 hd_X10_isIn ⟨Nat.le_of_ble_eq_true rfl, Nat.le_of_ble_eq_true rfl⟩) TT_X10_isIn rfl rfl (Nat.le_of_ble_eq_true rfl) dX10_isClock_18 ⟨Nat.le_of_ble_eq_true rfl, Nat.le_of_ble_eq_true rfl⟩) hS (fun v_11 H locs w_12 hR hS => ?_)
    rcases w_12 with ⟨rfl, f_13, f_14⟩ | ⟨rfl, f_15⟩
    · skip
      refine bz_eq (tgt := 28) (a := 1) (b := 0) hC.x hC.b rfl rfl dX10_isClock_21 (by decide) (fun c_16 => absurd c_16 (by decide)) (fun _ => ?_)
      refine lv_iconst (v := 1) hC.x hC.b dX10_isClock_24 (by decide) ?_
      refine lv_goto (tgt := 29) hC.x hC.b dX10_isClock_25 (by decide) ?_
      exact retz hC hK hR hS (Or.inr rfl) ⟨rfl, (by first | exact Or.inl (⟨by first | rfl | omega, by first | omega | assumption, by first | omega | assumption⟩) | exact False.elim (by omega))⟩ dX10_isClock_29
    · skip
      refine bz_eq (tgt := 28) (a := 0) (b := 0) hC.x hC.b rfl rfl dX10_isClock_21 (by decide) (fun _ => ?_) (fun c_17 => absurd c_17 (by decide))
      refine lv_iconst (v := 0) hC.x hC.b dX10_isClock_28 (by decide) ?_
      exact retz hC hK hR hS (Or.inl rfl) ⟨rfl, (by first | exact Or.inr ((⟨by first | rfl | omega, by first | omega | assumption⟩)) | exact False.elim (by omega))⟩ dX10_isClock_29
  · skip
    refine bz_eq (tgt := 28) (a := 0) (b := 0) hC.x hC.b rfl rfl dX10_isClock_7 (by decide) (fun _ => ?_) (fun c_18 => absurd c_18 (by decide))
    refine lv_iconst (v := 0) hC.x hC.b dX10_isClock_28 (by decide) ?_
    exact retz hC hK hR hS (Or.inl rfl) ⟨rfl, (by first | exact Or.inr ((⟨by first | rfl | omega, by first | omega | assumption⟩)) | exact False.elim (by omega))⟩ dX10_isClock_29

abbrev po_X10_isLink (σ : SI) (τ : SL) (pl : Int32) (q : Nat) : Int32 → SI × SL → Prop := fun v u => u = (σ, τ) ∧ (((v = (1)) ∧ (0 ≤ pl.toInt ∧ pl.toInt < 24) ∧ (4 ≤ (σ 36 q).toInt ∧ (σ 36 q).toInt ≤ 6)) ∨ ((v = (0)) ∧ (¬ (0 ≤ pl.toInt ∧ pl.toInt < 24 ∧ 4 ≤ (σ 36 q).toInt ∧ (σ 36 q).toInt ≤ 6))))
set_option maxRecDepth 100000 in
set_option maxHeartbeats 4000000 in
theorem c_X10_isLink (l : Launch) {G : Gx} {A : Nat → Prop} (hG : GOk G A) (σ : SI) (τ : SL) (pl : Int32) (q : Nat) (hp_q : pl.toInt.toNat = q) : MI l G A 1 yX10_isLink cX10_isLink 2 (some .boolean) [.ref (G.2.1 35), .int pl] (σ, τ) (po_X10_isLink σ τ pl q) := by
  refine met_of (own := RX10) (by decide +kernel) rfl [(0, .ref (G.2.1 35)), (1, .int pl)] rfl (Nat.le_of_ble_eq_true rfl) ?_
  intro p e s m args below meth c ls hC hK hR hl
  have hS : va_S A s.heap s.heap [] := va_S.rf
  refine lv_iload_n hC.x hC.b dX10_isLink_0 rfl (lv_at hl 1 rfl) ?_
  refine lv_iconst (v := 0) hC.x hC.b dX10_isLink_1 (by decide) ?_
  refine lv_bipush (v := 23) hC.x hC.b dX10_isLink_2 (by decide) ?_
  have av_1 : (0 : Int32).toInt = 0 := by decide
  have av_2 : (23 : Int32).toInt = 23 := by decide
  refine goip (runS (As := [.int pl, .int (0 : Int32), .int (23 : Int32)]) (rest := []) hC hK hR hl.1 (c_X10_isIn l hG σ τ pl (0 : Int32) (23 : Int32) ) (call_b hC.ts TC_X10_isIn TN_X10 TM_X10_129 hd_X10_isIn ⟨Nat.le_of_ble_eq_true rfl, Nat.le_of_ble_eq_true rfl⟩) TT_X10_isIn rfl rfl (Nat.le_of_ble_eq_true rfl) dX10_isLink_4 ⟨Nat.le_of_ble_eq_true rfl, Nat.le_of_ble_eq_true rfl⟩) hS (fun v_3 H locs w_4 hR hS => ?_)
  rcases w_4 with ⟨rfl, f_5, f_6⟩ | ⟨rfl, f_7⟩
  · skip
    refine bz_eq (tgt := 29) (a := 1) (b := 0) hC.x hC.b rfl rfl dX10_isLink_7 (by decide) (fun c_8 => absurd c_8 (by decide)) (fun _ => ?_)
    refine lv_aload_n hC.x hC.b dX10_isLink_10 rfl (lv_at hl 0 rfl) ?_
    refine rget hC hK hR (ct_model G _ _) rfl uin_X10 0 (by decide) TF_X10_9 rfl dX10_isLink_11 ?_
    refine lv_iload_n hC.x hC.b dX10_isLink_14 rfl (lv_at hl 1 rfl) ?_
    refine ald hC hK hR (ct_m_kinds G _ _) rfl (by omega) (by omega) hp_q dX10_isLink_15 ?_
    refine lv_iconst (v := 4) hC.x hC.b dX10_isLink_16 (by decide) ?_
    refine lv_bipush (v := 6) hC.x hC.b dX10_isLink_17 (by decide) ?_
    have av_9 : (4 : Int32).toInt = 4 := by decide
    have av_10 : (6 : Int32).toInt = 6 := by decide
    refine goip (runS (As := [.int (σ 36 q), .int (4 : Int32), .int (6 : Int32)]) (rest := []) hC hK hR hl.1 (c_X10_isIn l hG σ τ (σ 36 q) (4 : Int32) (6 : Int32) ) (call_b hC.ts TC_X10_isIn TN_X10 TM_X10_129 hd_X10_isIn ⟨Nat.le_of_ble_eq_true rfl, Nat.le_of_ble_eq_true rfl⟩) TT_X10_isIn rfl rfl (Nat.le_of_ble_eq_true rfl) dX10_isLink_19 ⟨Nat.le_of_ble_eq_true rfl, Nat.le_of_ble_eq_true rfl⟩) hS (fun v_11 H locs w_12 hR hS => ?_)
    rcases w_12 with ⟨rfl, f_13, f_14⟩ | ⟨rfl, f_15⟩
    · skip
      refine bz_eq (tgt := 29) (a := 1) (b := 0) hC.x hC.b rfl rfl dX10_isLink_22 (by decide) (fun c_16 => absurd c_16 (by decide)) (fun _ => ?_)
      refine lv_iconst (v := 1) hC.x hC.b dX10_isLink_25 (by decide) ?_
      refine lv_goto (tgt := 30) hC.x hC.b dX10_isLink_26 (by decide) ?_
      exact retz hC hK hR hS (Or.inr rfl) ⟨rfl, (by first | exact Or.inl (⟨by first | rfl | omega, by first | omega | assumption, by first | omega | assumption⟩) | exact False.elim (by omega))⟩ dX10_isLink_30
    · skip
      refine bz_eq (tgt := 29) (a := 0) (b := 0) hC.x hC.b rfl rfl dX10_isLink_22 (by decide) (fun _ => ?_) (fun c_17 => absurd c_17 (by decide))
      refine lv_iconst (v := 0) hC.x hC.b dX10_isLink_29 (by decide) ?_
      exact retz hC hK hR hS (Or.inl rfl) ⟨rfl, (by first | exact Or.inr ((⟨by first | rfl | omega, by first | omega | assumption⟩)) | exact False.elim (by omega))⟩ dX10_isLink_30
  · skip
    refine bz_eq (tgt := 29) (a := 0) (b := 0) hC.x hC.b rfl rfl dX10_isLink_7 (by decide) (fun _ => ?_) (fun c_18 => absurd c_18 (by decide))
    refine lv_iconst (v := 0) hC.x hC.b dX10_isLink_29 (by decide) ?_
    exact retz hC hK hR hS (Or.inl rfl) ⟨rfl, (by first | exact Or.inr ((⟨by first | rfl | omega, by first | omega | assumption⟩)) | exact False.elim (by omega))⟩ dX10_isLink_30

abbrev po_X10_fails (σ : SI) (τ : SL) (pl : Int32) (q : Nat) (la : Int32) (ma : Int32) : Int32 → SI × SL → Prop := fun v u => u = (σ, τ) ∧ (((v = (-1)) ∧ (¬ (0 ≤ pl.toInt ∧ pl.toInt < 24) ∨ (σ 36 q).toInt = -1)) ∨ ((v = (0)) ∧ (0 ≤ pl.toInt ∧ pl.toInt < 24) ∧ ((σ 36 q).toInt ≠ -1) ∧ (la.toInt ≤ (σ 36 q).toInt ∧ (σ 36 q).toInt ≤ ma.toInt)) ∨ ((v = (-2)) ∧ (0 ≤ pl.toInt ∧ pl.toInt < 24) ∧ ((σ 36 q).toInt ≠ -1) ∧ (¬ (la.toInt ≤ (σ 36 q).toInt ∧ (σ 36 q).toInt ≤ ma.toInt))))
set_option maxRecDepth 100000 in
set_option maxHeartbeats 4000000 in
theorem c_X10_fails (l : Launch) {G : Gx} {A : Nat → Prop} (hG : GOk G A) (σ : SI) (τ : SL) (pl : Int32) (q : Nat) (hp_q : pl.toInt.toNat = q) (la : Int32) (ma : Int32) : MI l G A 1 yX10_fails cX10_fails 4 (some .int) [.ref (G.2.1 35), .int pl, .int la, .int ma] (σ, τ) (po_X10_fails σ τ pl q la ma) := by
  refine met_of (own := RX10) (by decide +kernel) rfl [(0, .ref (G.2.1 35)), (1, .int pl), (2, .int la), (3, .int ma)] rfl (Nat.le_of_ble_eq_true rfl) ?_
  intro p e s m args below meth c ls hC hK hR hl
  have hS : va_S A s.heap s.heap [] := va_S.rf
  refine lv_iload_n hC.x hC.b dX10_fails_0 rfl (lv_at hl 1 rfl) ?_
  refine lv_iconst (v := 0) hC.x hC.b dX10_fails_1 (by decide) ?_
  refine lv_bipush (v := 23) hC.x hC.b dX10_fails_2 (by decide) ?_
  have av_1 : (0 : Int32).toInt = 0 := by decide
  have av_2 : (23 : Int32).toInt = 23 := by decide
  refine goip (runS (As := [.int pl, .int (0 : Int32), .int (23 : Int32)]) (rest := []) hC hK hR hl.1 (c_X10_isIn l hG σ τ pl (0 : Int32) (23 : Int32) ) (call_b hC.ts TC_X10_isIn TN_X10 TM_X10_129 hd_X10_isIn ⟨Nat.le_of_ble_eq_true rfl, Nat.le_of_ble_eq_true rfl⟩) TT_X10_isIn rfl rfl (Nat.le_of_ble_eq_true rfl) dX10_fails_4 ⟨Nat.le_of_ble_eq_true rfl, Nat.le_of_ble_eq_true rfl⟩) hS (fun v_3 H locs w_4 hR hS => ?_)
  rcases w_4 with ⟨rfl, f_5, f_6⟩ | ⟨rfl, f_7⟩
  · skip
    refine bz_eq (tgt := 20) (a := 1) (b := 0) hC.x hC.b rfl rfl dX10_fails_7 (by decide) (fun c_8 => absurd c_8 (by decide)) (fun _ => ?_)
    refine lv_aload_n hC.x hC.b dX10_fails_10 rfl (lv_at hl 0 rfl) ?_
    refine rget hC hK hR (ct_model G _ _) rfl uin_X10 0 (by decide) TF_X10_9 rfl dX10_fails_11 ?_
    refine lv_iload_n hC.x hC.b dX10_fails_14 rfl (lv_at hl 1 rfl) ?_
    refine ald hC hK hR (ct_m_kinds G _ _) rfl (by omega) (by omega) hp_q dX10_fails_15 ?_
    refine lv_iconst (v := (-1)) hC.x hC.b dX10_fails_16 (by decide) ?_
    refine bi_ne (tgt := 22) (a := (σ 36 q).toInt) (b := (-1)) hC.x hC.b rfl rfl dX10_fails_17 (by decide) (fun c_9 => ?_) (fun c_9 => ?_)
    · skip
      refine lv_aload_n hC.x hC.b dX10_fails_22 rfl (lv_at hl 0 rfl) ?_
      refine rget hC hK hR (ct_model G _ _) rfl uin_X10 0 (by decide) TF_X10_9 rfl dX10_fails_23 ?_
      refine lv_iload_n hC.x hC.b dX10_fails_26 rfl (lv_at hl 1 rfl) ?_
      refine ald hC hK hR (ct_m_kinds G _ _) rfl (by omega) (by omega) hp_q dX10_fails_27 ?_
      refine lv_iload_n hC.x hC.b dX10_fails_28 rfl (lv_at hl 2 rfl) ?_
      refine lv_iload_n hC.x hC.b dX10_fails_29 rfl (lv_at hl 3 rfl) ?_
      refine goip (runS (As := [.int (σ 36 q), .int la, .int ma]) (rest := []) hC hK hR hl.1 (c_X10_isIn l hG σ τ (σ 36 q) la ma ) (call_b hC.ts TC_X10_isIn TN_X10 TM_X10_129 hd_X10_isIn ⟨Nat.le_of_ble_eq_true rfl, Nat.le_of_ble_eq_true rfl⟩) TT_X10_isIn rfl rfl (Nat.le_of_ble_eq_true rfl) dX10_fails_30 ⟨Nat.le_of_ble_eq_true rfl, Nat.le_of_ble_eq_true rfl⟩) hS (fun v_10 H locs w_11 hR hS => ?_)
      rcases w_11 with ⟨rfl, f_12, f_13⟩ | ⟨rfl, f_14⟩
      · skip
        refine bz_eq (tgt := 40) (a := 1) (b := 0) hC.x hC.b rfl rfl dX10_fails_33 (by decide) (fun c_15 => absurd c_15 (by decide)) (fun _ => ?_)
        refine lv_iconst (v := 0) hC.x hC.b dX10_fails_36 (by decide) ?_
        refine lv_goto (tgt := 42) hC.x hC.b dX10_fails_37 (by decide) ?_
        exact reti hC hK hR hS ⟨rfl, (by first | exact Or.inr (Or.inl (⟨by first | rfl | omega, by first | omega | assumption, by first | omega | assumption, by first | omega | assumption⟩)) | exact False.elim (by omega))⟩ dX10_fails_42
      · skip
        refine bz_eq (tgt := 40) (a := 0) (b := 0) hC.x hC.b rfl rfl dX10_fails_33 (by decide) (fun _ => ?_) (fun c_16 => absurd c_16 (by decide))
        refine lv_bipush (v := (-2)) hC.x hC.b dX10_fails_40 (by decide) ?_
        exact reti hC hK hR hS ⟨rfl, (by first | exact Or.inr (Or.inr ((⟨by first | rfl | omega, by first | omega | assumption, by first | omega | assumption, by first | omega | assumption⟩))) | exact False.elim (by omega))⟩ dX10_fails_42
    · skip
      refine lv_iconst (v := (-1)) hC.x hC.b dX10_fails_20 (by decide) ?_
      exact reti hC hK hR hS ⟨rfl, (by first | exact Or.inl (⟨by first | rfl | omega, by first | omega | assumption⟩) | exact False.elim (by omega))⟩ dX10_fails_21
  · skip
    refine bz_eq (tgt := 20) (a := 0) (b := 0) hC.x hC.b rfl rfl dX10_fails_7 (by decide) (fun _ => ?_) (fun c_17 => absurd c_17 (by decide))
    refine lv_iconst (v := (-1)) hC.x hC.b dX10_fails_20 (by decide) ?_
    exact reti hC hK hR hS ⟨rfl, (by first | exact Or.inl (⟨by first | rfl | omega, by first | omega | assumption⟩) | exact False.elim (by omega))⟩ dX10_fails_21

abbrev po_X10_put (σ : SI) (τ : SL) (pl : Int32) (q : Nat) (ka : Int32) (fa : Int32) (fq : Nat) (sa : Int32) (sq : Nat) : Int32 → SI × SL → Prop := fun v u => ((v = (-1)) ∧ (u.1 = σ) ∧ (u.2 = τ) ∧ (¬ ((0 ≤ pl.toInt ∧ pl.toInt < 24) ∧ ((σ 36 q).toInt = -1) ∧ (0 ≤ ka.toInt ∧ ka.toInt ≤ 3) ∧ (2 ≤ fa.toInt ∧ fa.toInt ≤ 12) ∧ (1 ≤ sa.toInt ∧ sa.toInt ≤ 12))) ∧ (¬ ((0 ≤ pl.toInt ∧ pl.toInt < 24) ∧ ((σ 36 q).toInt = -1) ∧ (4 ≤ ka.toInt ∧ ka.toInt ≤ 6) ∧ (fa.toInt ≠ sa.toInt) ∧ (0 ≤ fa.toInt ∧ fa.toInt < 24 ∧ 0 ≤ (σ 36 fq).toInt ∧ (σ 36 fq).toInt ≤ 3) ∧ (0 ≤ sa.toInt ∧ sa.toInt < 24 ∧ 0 ≤ (σ 36 sq).toInt ∧ (σ 36 sq).toInt ≤ 3))) ∧ (¬ ((0 ≤ pl.toInt ∧ pl.toInt < 24) ∧ ((σ 36 q).toInt = -1) ∧ (ka.toInt = 7)))) ∨ ((v = pl) ∧ (u.2 = τ) ∧ (TornN (up2 (up2 (up2 (up2 (up2 (up2 (up2 (up2 (up2 (up2 (up2 (up2 σ 36 q ka) 37 q fa) 38 q sa) 39 q 0) 40 q 0) 41 q 0) 42 q 0) 43 q (σ 35 29)) 44 q (-9)) 45 q 0) 46 q 0) 47 q 0) u.1 q 201) ∧ (((0 ≤ pl.toInt ∧ pl.toInt < 24) ∧ ((σ 36 q).toInt = -1) ∧ (0 ≤ ka.toInt ∧ ka.toInt ≤ 3) ∧ (2 ≤ fa.toInt ∧ fa.toInt ≤ 12) ∧ (1 ≤ sa.toInt ∧ sa.toInt ≤ 12)) ∨ ((0 ≤ pl.toInt ∧ pl.toInt < 24) ∧ ((σ 36 q).toInt = -1) ∧ (4 ≤ ka.toInt ∧ ka.toInt ≤ 6) ∧ (fa.toInt ≠ sa.toInt) ∧ (0 ≤ fa.toInt ∧ fa.toInt < 24 ∧ 0 ≤ (σ 36 fq).toInt ∧ (σ 36 fq).toInt ≤ 3) ∧ (0 ≤ sa.toInt ∧ sa.toInt < 24 ∧ 0 ≤ (σ 36 sq).toInt ∧ (σ 36 sq).toInt ≤ 3)) ∨ ((0 ≤ pl.toInt ∧ pl.toInt < 24) ∧ ((σ 36 q).toInt = -1) ∧ (ka.toInt = 7))))
set_option maxRecDepth 100000 in
set_option maxHeartbeats 4000000 in
theorem c_X10_put (l : Launch) {G : Gx} {A : Nat → Prop} (hG : GOk G A) (σ : SI) (τ : SL) (pl : Int32) (q : Nat) (hp_q : pl.toInt.toNat = q) (ka : Int32) (fa : Int32) (fq : Nat) (hp_fq : fa.toInt.toNat = fq) (sa : Int32) (sq : Nat) (hp_sq : sa.toInt.toNat = sq) (hnw : 0 ≤ (σ 35 29).toInt ∧ (σ 35 29).toInt ≤ 200) : MI l G A 2 yX10_put cX10_put 6 (some .int) [.ref (G.2.1 35), .int pl, .int ka, .int fa, .int sa] (σ, τ) (po_X10_put σ τ pl q ka fa fq sa sq) := by
  refine met_of (own := RX10) (by decide +kernel) rfl [(0, .ref (G.2.1 35)), (1, .int pl), (2, .int ka), (3, .int fa), (4, .int sa)] rfl (Nat.le_of_ble_eq_true rfl) ?_
  intro p e s m args below meth c ls hC hK hR hl
  have hS : va_S A s.heap s.heap [] := va_S.rf
  refine lv_iload_n hC.x hC.b dX10_put_0 rfl (lv_at hl 1 rfl) ?_
  refine lv_iconst (v := 0) hC.x hC.b dX10_put_1 (by decide) ?_
  refine lv_bipush (v := 23) hC.x hC.b dX10_put_2 (by decide) ?_
  have av_1 : (0 : Int32).toInt = 0 := by decide
  have av_2 : (23 : Int32).toInt = 23 := by decide
  refine goip (runS (As := [.int pl, .int (0 : Int32), .int (23 : Int32)]) (rest := []) hC hK hR hl.1 (c_X10_isIn l hG σ τ pl (0 : Int32) (23 : Int32) ) (call_b hC.ts TC_X10_isIn TN_X10 TM_X10_129 hd_X10_isIn ⟨Nat.le_of_ble_eq_true rfl, Nat.le_of_ble_eq_true rfl⟩) TT_X10_isIn rfl rfl (Nat.le_of_ble_eq_true rfl) dX10_put_4 ⟨Nat.le_of_ble_eq_true rfl, Nat.le_of_ble_eq_true rfl⟩) hS (fun v_3 H locs w_4 hR hS => ?_)
  rcases w_4 with ⟨rfl, f_5, f_6⟩ | ⟨rfl, f_7⟩
  · skip
    refine bz_eq (tgt := 30) (a := 1) (b := 0) hC.x hC.b rfl rfl dX10_put_7 (by decide) (fun c_8 => absurd c_8 (by decide)) (fun _ => ?_)
    refine lv_aload_n hC.x hC.b dX10_put_10 rfl (lv_at hl 0 rfl) ?_
    refine rget hC hK hR (ct_model G _ _) rfl uin_X10 0 (by decide) TF_X10_9 rfl dX10_put_11 ?_
    refine lv_iload_n hC.x hC.b dX10_put_14 rfl (lv_at hl 1 rfl) ?_
    refine ald hC hK hR (ct_m_kinds G _ _) rfl (by omega) (by omega) hp_q dX10_put_15 ?_
    refine lv_iconst (v := (-1)) hC.x hC.b dX10_put_16 (by decide) ?_
    refine bi_ne (tgt := 30) (a := (σ 36 q).toInt) (b := (-1)) hC.x hC.b rfl rfl dX10_put_17 (by decide) (fun c_9 => ?_) (fun c_9 => ?_)
    · skip
      refine lv_iconst (v := (-1)) hC.x hC.b dX10_put_30 (by decide) ?_
      exact reti hC hK hR hS (by first | exact Or.inl (⟨by first | rfl | omega, by first | rfl | assumption, by rfl, by first | omega | assumption, by first | omega | assumption, by first | omega | assumption⟩) | exact Or.inr ((⟨by first | rfl | omega, by rfl, by (have e9 : n = 201 := by omega); subst e9; assumption, by first | omega | assumption⟩)) | exact False.elim (by omega)) dX10_put_31
    · skip
      refine lv_iload_n hC.x hC.b dX10_put_20 rfl (lv_at hl 2 rfl) ?_
      refine lv_iconst (v := 0) hC.x hC.b dX10_put_21 (by decide) ?_
      refine lv_bipush (v := 7) hC.x hC.b dX10_put_22 (by decide) ?_
      have av_10 : (0 : Int32).toInt = 0 := by decide
      have av_11 : (7 : Int32).toInt = 7 := by decide
      refine goip (runS (As := [.int ka, .int (0 : Int32), .int (7 : Int32)]) (rest := []) hC hK hR hl.1 (c_X10_isIn l hG σ τ ka (0 : Int32) (7 : Int32) ) (call_b hC.ts TC_X10_isIn TN_X10 TM_X10_129 hd_X10_isIn ⟨Nat.le_of_ble_eq_true rfl, Nat.le_of_ble_eq_true rfl⟩) TT_X10_isIn rfl rfl (Nat.le_of_ble_eq_true rfl) dX10_put_24 ⟨Nat.le_of_ble_eq_true rfl, Nat.le_of_ble_eq_true rfl⟩) hS (fun v_12 H locs w_13 hR hS => ?_)
      rcases w_13 with ⟨rfl, f_14, f_15⟩ | ⟨rfl, f_16⟩
      · skip
        refine bz_ne (tgt := 32) (a := 1) (b := 0) hC.x hC.b rfl rfl dX10_put_27 (by decide) (fun _ => ?_) (fun c_17 => absurd c_17 (by decide))
        refine lv_iload_n hC.x hC.b dX10_put_32 rfl (lv_at hl 2 rfl) ?_
        refine lv_iconst (v := 3) hC.x hC.b dX10_put_33 (by decide) ?_
        refine bi_gt (tgt := 60) (a := ka.toInt) (b := 3) hC.x hC.b rfl rfl dX10_put_34 (by decide) (fun c_18 => ?_) (fun c_18 => ?_)
        · skip
          refine lv_iload_n hC.x hC.b dX10_put_60 rfl (lv_at hl 2 rfl) ?_
          refine lv_iconst (v := 4) hC.x hC.b dX10_put_61 (by decide) ?_
          refine lv_bipush (v := 6) hC.x hC.b dX10_put_62 (by decide) ?_
          have av_19 : (4 : Int32).toInt = 4 := by decide
          have av_20 : (6 : Int32).toInt = 6 := by decide
          refine goip (runS (As := [.int ka, .int (4 : Int32), .int (6 : Int32)]) (rest := []) hC hK hR hl.1 (c_X10_isIn l hG σ τ ka (4 : Int32) (6 : Int32) ) (call_b hC.ts TC_X10_isIn TN_X10 TM_X10_129 hd_X10_isIn ⟨Nat.le_of_ble_eq_true rfl, Nat.le_of_ble_eq_true rfl⟩) TT_X10_isIn rfl rfl (Nat.le_of_ble_eq_true rfl) dX10_put_64 ⟨Nat.le_of_ble_eq_true rfl, Nat.le_of_ble_eq_true rfl⟩) hS (fun v_21 H locs w_22 hR hS => ?_)
          rcases w_22 with ⟨rfl, f_23, f_24⟩ | ⟨rfl, f_25⟩
          · skip
            refine bz_eq (tgt := 95) (a := 1) (b := 0) hC.x hC.b rfl rfl dX10_put_67 (by decide) (fun c_26 => absurd c_26 (by decide)) (fun _ => ?_)
            refine lv_iload_n hC.x hC.b dX10_put_70 rfl (lv_at hl 3 rfl) ?_
            refine lv_iload hC.x hC.b dX10_put_71 (lv_at hl 4 rfl) ?_
            refine bi_eq (tgt := 93) (a := fa.toInt) (b := sa.toInt) hC.x hC.b rfl rfl dX10_put_73 (by decide) (fun c_27 => ?_) (fun c_27 => ?_)
            · skip
              refine lv_iconst (v := (-1)) hC.x hC.b dX10_put_93 (by decide) ?_
              exact reti hC hK hR hS (by first | exact Or.inl (⟨by first | rfl | omega, by first | rfl | assumption, by rfl, by first | omega | assumption, by first | omega | assumption, by first | omega | assumption⟩) | exact Or.inr ((⟨by first | rfl | omega, by rfl, by (have e9 : n = 201 := by omega); subst e9; assumption, by first | omega | assumption⟩)) | exact False.elim (by omega)) dX10_put_94
            · skip
              refine lv_aload_n hC.x hC.b dX10_put_76 rfl (lv_at hl 0 rfl) ?_
              refine lv_iload_n hC.x hC.b dX10_put_77 rfl (lv_at hl 3 rfl) ?_
              refine goip (runV (As := [.int fa]) (rest := []) hC hK hR hl.1 (c_X10_isClock l hG σ τ fa fq (by first | rfl | (rw [show fa.toInt = fa.toInt from rfl]; done) | (rw [show fa.toInt = fa.toInt from rfl]; exact hp_fq)) ) (call_b hC.ts TC_X10_isClock TN_X10 TM_X10_133 hd_X10_isClock ⟨Nat.le_of_ble_eq_true rfl, Nat.le_of_ble_eq_true rfl⟩) TI_X10_isClock TS_X10_isClock (ct_model G _ _) rfl rfl rfl (Nat.le_of_ble_eq_true rfl) dX10_put_78 ⟨Nat.le_of_ble_eq_true rfl, Nat.le_of_ble_eq_true rfl⟩) hS (fun v_28 H locs w_29 hR hS => ?_)
              rcases w_29 with ⟨rfl, f_30, f_31⟩ | ⟨rfl, f_32⟩
              · skip
                refine bz_eq (tgt := 93) (a := 1) (b := 0) hC.x hC.b rfl rfl dX10_put_81 (by decide) (fun c_33 => absurd c_33 (by decide)) (fun _ => ?_)
                refine lv_aload_n hC.x hC.b dX10_put_84 rfl (lv_at hl 0 rfl) ?_
                refine lv_iload hC.x hC.b dX10_put_85 (lv_at hl 4 rfl) ?_
                refine goip (runV (As := [.int sa]) (rest := []) hC hK hR hl.1 (c_X10_isClock l hG σ τ sa sq (by first | rfl | (rw [show sa.toInt = sa.toInt from rfl]; done) | (rw [show sa.toInt = sa.toInt from rfl]; exact hp_sq)) ) (call_b hC.ts TC_X10_isClock TN_X10 TM_X10_133 hd_X10_isClock ⟨Nat.le_of_ble_eq_true rfl, Nat.le_of_ble_eq_true rfl⟩) TI_X10_isClock TS_X10_isClock (ct_model G _ _) rfl rfl rfl (Nat.le_of_ble_eq_true rfl) dX10_put_87 ⟨Nat.le_of_ble_eq_true rfl, Nat.le_of_ble_eq_true rfl⟩) hS (fun v_34 H locs w_35 hR hS => ?_)
                rcases w_35 with ⟨rfl, f_36, f_37⟩ | ⟨rfl, f_38⟩
                · skip
                  refine bz_ne (tgt := 95) (a := 1) (b := 0) hC.x hC.b rfl rfl dX10_put_90 (by decide) (fun _ => ?_) (fun c_39 => absurd c_39 (by decide))
                  refine lv_aload_n hC.x hC.b dX10_put_95 rfl (lv_at hl 0 rfl) ?_
                  refine rget hC hK hR (ct_model G _ _) rfl uin_X10 0 (by decide) TF_X10_9 rfl dX10_put_96 ?_
                  refine lv_iload_n hC.x hC.b dX10_put_99 rfl (lv_at hl 1 rfl) ?_
                  refine lv_iload_n hC.x hC.b dX10_put_100 rfl (lv_at hl 2 rfl) ?_
                  refine ast hC hK hG hR hS (fun _ => ct_m_kinds G _ _) rfl (by omega) (by omega) hp_q dX10_put_101 (fun s_40 es_41 H locs hR hS => ?_)
                  refine lv_aload_n hC.x hC.b dX10_put_102 rfl (lv_at hl 0 rfl) ?_
                  refine rget hC hK hR (ct_model G _ _) rfl uin_X10 1 (by decide) TF_X10_13 rfl dX10_put_103 ?_
                  refine lv_iload_n hC.x hC.b dX10_put_106 rfl (lv_at hl 1 rfl) ?_
                  refine lv_iload_n hC.x hC.b dX10_put_107 rfl (lv_at hl 3 rfl) ?_
                  refine ast hC hK hG hR hS (fun _ => ct_m_one G _ _) rfl (by omega) (by omega) hp_q dX10_put_108 (fun s_42 es_43 H locs hR hS => ?_)
                  refine lv_aload_n hC.x hC.b dX10_put_109 rfl (lv_at hl 0 rfl) ?_
                  refine rget hC hK hR (ct_model G _ _) rfl uin_X10 2 (by decide) TF_X10_16 rfl dX10_put_110 ?_
                  refine lv_iload_n hC.x hC.b dX10_put_113 rfl (lv_at hl 1 rfl) ?_
                  refine lv_iload hC.x hC.b dX10_put_114 (lv_at hl 4 rfl) ?_
                  refine ast hC hK hG hR hS (fun _ => ct_m_two G _ _) rfl (by omega) (by omega) hp_q dX10_put_116 (fun s_44 es_45 H locs hR hS => ?_)
                  refine lv_aload_n hC.x hC.b dX10_put_117 rfl (lv_at hl 0 rfl) ?_
                  refine rget hC hK hR (ct_model G _ _) rfl uin_X10 3 (by decide) TF_X10_19 rfl dX10_put_118 ?_
                  refine lv_iload_n hC.x hC.b dX10_put_121 rfl (lv_at hl 1 rfl) ?_
                  refine lv_iconst (v := 0) hC.x hC.b dX10_put_122 (by decide) ?_
                  refine zast hC hK hG hR hS (fun _ => ct_m_taken G _ _) rfl (by omega) (by omega) hp_q (Or.inl rfl) dX10_put_123 (fun s_46 es_47 H locs hR hS => ?_)
                  refine lv_aload_n hC.x hC.b dX10_put_124 rfl (lv_at hl 0 rfl) ?_
                  refine rget hC hK hR (ct_model G _ _) rfl uin_X10 4 (by decide) TF_X10_23 rfl dX10_put_125 ?_
                  refine lv_iload_n hC.x hC.b dX10_put_128 rfl (lv_at hl 1 rfl) ?_
                  refine lv_iconst (v := 0) hC.x hC.b dX10_put_129 (by decide) ?_
                  refine zast hC hK hG hR hS (fun _ => ct_m_called G _ _) rfl (by omega) (by omega) hp_q (Or.inl rfl) dX10_put_130 (fun s_48 es_49 H locs hR hS => ?_)
                  refine lv_aload_n hC.x hC.b dX10_put_131 rfl (lv_at hl 0 rfl) ?_
                  refine rget hC hK hR (ct_model G _ _) rfl uin_X10 5 (by decide) TF_X10_26 rfl dX10_put_132 ?_
                  refine lv_iload_n hC.x hC.b dX10_put_135 rfl (lv_at hl 1 rfl) ?_
                  refine lv_iconst (v := 0) hC.x hC.b dX10_put_136 (by decide) ?_
                  refine zast hC hK hG hR hS (fun _ => ct_m_isOut G _ _) rfl (by omega) (by omega) hp_q (Or.inl rfl) dX10_put_137 (fun s_50 es_51 H locs hR hS => ?_)
                  refine lv_aload_n hC.x hC.b dX10_put_138 rfl (lv_at hl 0 rfl) ?_
                  refine rget hC hK hR (ct_model G _ _) rfl uin_X10 6 (by decide) TF_X10_29 rfl dX10_put_139 ?_
                  refine lv_iload_n hC.x hC.b dX10_put_142 rfl (lv_at hl 1 rfl) ?_
                  refine lv_iconst (v := 0) hC.x hC.b dX10_put_143 (by decide) ?_
                  refine ast hC hK hG hR hS (fun _ => ct_m_setting G _ _) rfl (by omega) (by omega) hp_q dX10_put_144 (fun s_52 es_53 H locs hR hS => ?_)
                  refine lv_aload_n hC.x hC.b dX10_put_145 rfl (lv_at hl 0 rfl) ?_
                  refine rget hC hK hR (ct_model G _ _) rfl uin_X10 7 (by decide) TF_X10_32 rfl dX10_put_146 ?_
                  refine lv_iload_n hC.x hC.b dX10_put_149 rfl (lv_at hl 1 rfl) ?_
                  refine lv_aload_n hC.x hC.b dX10_put_150 rfl (lv_at hl 0 rfl) ?_
                  refine rget hC hK hR (ct_model G _ _) rfl uin_X10 29 (by decide) TF_X10_137 rfl dX10_put_151 ?_
                  have rd_54 : (s_52 35 29).toInt = (σ 35 29).toInt := congrArg Int32.toInt (Eq.trans (show s_52 35 29 = s_50 35 29 from (by rw [es_53]; exact up2_o (by omega))) (Eq.trans (show s_50 35 29 = s_48 35 29 from (by rw [es_51]; exact up2_o (by omega))) (Eq.trans (show s_48 35 29 = s_46 35 29 from (by rw [es_49]; exact up2_o (by omega))) (Eq.trans (show s_46 35 29 = s_44 35 29 from (by rw [es_47]; exact up2_o (by omega))) (Eq.trans (show s_44 35 29 = s_42 35 29 from (by rw [es_45]; exact up2_o (by omega))) (Eq.trans (show s_42 35 29 = s_40 35 29 from (by rw [es_43]; exact up2_o (by omega))) (show s_40 35 29 = σ 35 29 from (by rw [es_41]; exact up2_o (by omega)))))))))
                  refine ast hC hK hG hR hS (fun _ => ct_m_since G _ _) rfl (by omega) (by omega) hp_q dX10_put_154 (fun s_55 es_56 H locs hR hS => ?_)
                  refine lv_aload_n hC.x hC.b dX10_put_155 rfl (lv_at hl 0 rfl) ?_
                  refine rget hC hK hR (ct_model G _ _) rfl uin_X10 8 (by decide) TF_X10_35 rfl dX10_put_156 ?_
                  refine lv_iload_n hC.x hC.b dX10_put_159 rfl (lv_at hl 1 rfl) ?_
                  refine lv_bipush (v := (-9)) hC.x hC.b dX10_put_160 (by decide) ?_
                  refine ast hC hK hG hR hS (fun _ => ct_m_suspect G _ _) rfl (by omega) (by omega) hp_q dX10_put_162 (fun s_57 es_58 H locs hR hS => ?_)
                  refine lv_aload_n hC.x hC.b dX10_put_163 rfl (lv_at hl 0 rfl) ?_
                  refine rget hC hK hR (ct_model G _ _) rfl uin_X10 9 (by decide) TF_X10_38 rfl dX10_put_164 ?_
                  refine lv_iload_n hC.x hC.b dX10_put_167 rfl (lv_at hl 1 rfl) ?_
                  refine lv_iconst (v := 0) hC.x hC.b dX10_put_168 (by decide) ?_
                  refine ast hC hK hG hR hS (fun _ => ct_m_stepMany G _ _) rfl (by omega) (by omega) hp_q dX10_put_169 (fun s_59 es_60 H locs hR hS => ?_)
                  refine lv_aload_n hC.x hC.b dX10_put_170 rfl (lv_at hl 0 rfl) ?_
                  refine rget hC hK hR (ct_model G _ _) rfl uin_X10 10 (by decide) TF_X10_41 rfl dX10_put_171 ?_
                  refine lv_iload_n hC.x hC.b dX10_put_174 rfl (lv_at hl 1 rfl) ?_
                  refine lv_iconst (v := 0) hC.x hC.b dX10_put_175 (by decide) ?_
                  refine ast hC hK hG hR hS (fun _ => ct_m_drifts G _ _) rfl (by omega) (by omega) hp_q dX10_put_176 (fun s_61 es_62 H locs hR hS => ?_)
                  refine lv_aload_n hC.x hC.b dX10_put_177 rfl (lv_at hl 0 rfl) ?_
                  refine rget hC hK hR (ct_model G _ _) rfl uin_X10 11 (by decide) TF_X10_44 rfl dX10_put_178 ?_
                  refine lv_iload_n hC.x hC.b dX10_put_181 rfl (lv_at hl 1 rfl) ?_
                  refine lv_iconst (v := 0) hC.x hC.b dX10_put_182 (by decide) ?_
                  refine ast hC hK hG hR hS (fun _ => ct_m_ways G _ _) rfl (by omega) (by omega) hp_q dX10_put_183 (fun s_63 es_64 H locs hR hS => ?_)
                  refine lv_iconst (v := 0) hC.x hC.b dX10_put_184 (by decide) ?_
                  refine lv_istore (lv' := [(5, .int (0 : Int32)), (0, .ref (G.2.1 35)), (1, .int pl), (2, .int ka), (3, .int fa), (4, .int sa)]) hC.x hC.b dX10_put_185 hl (by decide) rfl (fun ls hl => ?_)
                  have L_187 : ∀ (F : Nat) (n : Nat) (s1 : SI), (201 - n) < F → (n ≤ 201) → (TornN (up2 (up2 (up2 (up2 (up2 (up2 (up2 (up2 (up2 (up2 (up2 (up2 σ 36 q ka) 37 q fa) 38 q sa) 39 q 0) 40 q 0) 41 q 0) 42 q 0) 43 q (σ 35 29)) 44 q (-9)) 45 q 0) 46 q 0) 47 q 0) s1 q n) → ∀ (H : Heap) (locs : List Loc) (ls : Array Slot), RepH G s1 τ H → va_S A s.heap H locs → lv_has ls 6 [(0, .ref (G.2.1 35)), (1, .int pl), (5, .int (nI n))] → W p l e (rmD 2) s m args below meth c H locs 0 0 (MQ below (va_Qi (po_X10_put σ τ pl q ka fa fq sa sq) (BU G) A) args s 0 0 A) (F0 m 187 ls []) := by
                    intro F
                    induction F with
                    | zero => intro n s1 hm; exact absurd hm (Nat.not_lt_zero _)
                    | succ F ih_187 =>
                      intro n s1 hm_187 hi0_187 hi1_187 H locs ls hR hS hl
                      have hnI := nI_T n (by omega)
                      refine lv_iload hC.x hC.b dX10_put_187 (lv_at hl 2 rfl) ?_
                      refine lv_sipush (v := 201) hC.x hC.b dX10_put_189 (by decide) ?_
                      refine bi_ge (tgt := 227) (a := (n : Int)) (b := 201) hC.x hC.b (nI_T n (by omega)) rfl dX10_put_192 (by decide) (fun c_65 => ?_) (fun c_65 => ?_)
                      · skip
                        refine lv_iload_n hC.x hC.b dX10_put_227 rfl (lv_at hl 1 rfl) ?_
                        exact reti hC hK hR hS (by first | exact Or.inl (⟨by first | rfl | omega, by first | rfl | assumption, by rfl, by first | omega | assumption, by first | omega | assumption, by first | omega | assumption⟩) | exact Or.inr ((⟨by first | rfl | omega, by rfl, by (have e9 : n = 201 := by omega); subst e9; assumption, by first | omega | assumption⟩)) | exact False.elim (by omega)) dX10_put_228
                      · skip
                        refine lv_aload_n hC.x hC.b dX10_put_195 rfl (lv_at hl 0 rfl) ?_
                        refine rget hC hK hR (ct_model G _ _) rfl uin_X10 14 (by decide) TF_X10_53 rfl dX10_put_196 ?_
                        refine lv_aload_n hC.x hC.b dX10_put_199 rfl (lv_at hl 0 rfl) ?_
                        refine lv_iload hC.x hC.b dX10_put_200 (lv_at hl 2 rfl) ?_
                        refine lv_iload_n hC.x hC.b dX10_put_202 rfl (lv_at hl 1 rfl) ?_
                        have av_66 : (nI n).toInt = (n : Int) := (nI_T n (by omega))
                        refine goip (runV (As := [.int (nI n), .int pl]) (rest := [.ref (G.2.1 50)]) hC hK hR hl.1 (c_X10_at l hG s1 τ (nI n) n (by first | rfl | (rw [show (nI n).toInt = (n : Int) from (nI_T n (by omega))]; done) | (rw [show (nI n).toInt = (n : Int) from (nI_T n (by omega))]; exact (Int.toNat_natCast _))) pl q (by first | rfl | (rw [show pl.toInt = pl.toInt from rfl]; done) | (rw [show pl.toInt = pl.toInt from rfl]; exact hp_q)) (by omega) (by omega)) (call_b hC.ts TC_X10_at TN_X10 TM_X10_140 hd_X10_at ⟨Nat.le_of_ble_eq_true rfl, Nat.le_of_ble_eq_true rfl⟩) TI_X10_at TS_X10_at (ct_model G _ _) rfl rfl rfl (Nat.le_of_ble_eq_true rfl) dX10_put_203 ⟨Nat.le_of_ble_eq_true rfl, Nat.le_of_ble_eq_true rfl⟩) hS (fun v_67 H locs w_68 hR hS => ?_)
                        subst w_68
                        refine lv_iconst (v := 0) hC.x hC.b dX10_put_206 (by decide) ?_
                        refine zast hC hK hG hR hS (fun _ => ct_m_hasThere G _ _) (nI_T _ (by omega)) (by omega) (by omega) (Int.toNat_natCast _) (Or.inl rfl) dX10_put_207 (fun s_69 es_70 H locs hR hS => ?_)
                        refine lv_aload_n hC.x hC.b dX10_put_208 rfl (lv_at hl 0 rfl) ?_
                        refine rget hC hK hR (ct_model G _ _) rfl uin_X10 15 (by decide) TF_X10_56 rfl dX10_put_209 ?_
                        refine lv_aload_n hC.x hC.b dX10_put_212 rfl (lv_at hl 0 rfl) ?_
                        refine lv_iload hC.x hC.b dX10_put_213 (lv_at hl 2 rfl) ?_
                        refine lv_iload_n hC.x hC.b dX10_put_215 rfl (lv_at hl 1 rfl) ?_
                        have av_71 : (nI n).toInt = (n : Int) := (nI_T n (by omega))
                        refine goip (runV (As := [.int (nI n), .int pl]) (rest := [.ref (G.2.1 51)]) hC hK hR hl.1 (c_X10_at l hG s_69 τ (nI n) n (by first | rfl | (rw [show (nI n).toInt = (n : Int) from (nI_T n (by omega))]; done) | (rw [show (nI n).toInt = (n : Int) from (nI_T n (by omega))]; exact (Int.toNat_natCast _))) pl q (by first | rfl | (rw [show pl.toInt = pl.toInt from rfl]; done) | (rw [show pl.toInt = pl.toInt from rfl]; exact hp_q)) (by omega) (by omega)) (call_b hC.ts TC_X10_at TN_X10 TM_X10_140 hd_X10_at ⟨Nat.le_of_ble_eq_true rfl, Nat.le_of_ble_eq_true rfl⟩) TI_X10_at TS_X10_at (ct_model G _ _) rfl rfl rfl (Nat.le_of_ble_eq_true rfl) dX10_put_216 ⟨Nat.le_of_ble_eq_true rfl, Nat.le_of_ble_eq_true rfl⟩) hS (fun v_72 H locs w_73 hR hS => ?_)
                        subst w_73
                        refine lv_iconst (v := 0) hC.x hC.b dX10_put_219 (by decide) ?_
                        refine zast hC hK hG hR hS (fun _ => ct_m_hasBack G _ _) (nI_T _ (by omega)) (by omega) (by omega) (Int.toNat_natCast _) (Or.inl rfl) dX10_put_220 (fun s_74 es_75 H locs hR hS => ?_)
                        refine lv_iinc (v := nI (n + 1)) (lv' := [(5, .int (nI (n + 1))), (0, .ref (G.2.1 35)), (1, .int pl)]) hC.x hC.b dX10_put_221 hl (k := 2) rfl (nI_succ _).symm (by decide) rfl (fun ls hl => ?_)
                        refine lv_goto (tgt := 187) hC.x hC.b dX10_put_224 (by decide) ?_
                        exact ih_187 (n + 1) s_74 (by omega) (by first | omega | assumption) (by subst es_75; subst es_70; exact TornN.st (by assumption)) _ _ _ hR hS (lv_sub hl [1, 2, 0] rfl)
                  exact L_187 _ 0 s_63 (Nat.lt_succ_self _) (by first | omega | assumption) (by subst es_64; subst es_62; subst es_60; subst es_58; subst es_56; subst es_53; subst es_51; subst es_49; subst es_47; subst es_45; subst es_43; subst es_41; exact TornN.rf) _ _ _ hR hS (lv_sub hl [1, 2, 0] rfl)
                · skip
                  refine bz_ne (tgt := 95) (a := 0) (b := 0) hC.x hC.b rfl rfl dX10_put_90 (by decide) (fun c_76 => absurd c_76 (by decide)) (fun _ => ?_)
                  refine lv_iconst (v := (-1)) hC.x hC.b dX10_put_93 (by decide) ?_
                  exact reti hC hK hR hS (by first | exact Or.inl (⟨by first | rfl | omega, by first | rfl | assumption, by rfl, by first | omega | assumption, by first | omega | assumption, by first | omega | assumption⟩) | exact Or.inr ((⟨by first | rfl | omega, by rfl, by (have e9 : n = 201 := by omega); subst e9; assumption, by first | omega | assumption⟩)) | exact False.elim (by omega)) dX10_put_94
              · skip
                refine bz_eq (tgt := 93) (a := 0) (b := 0) hC.x hC.b rfl rfl dX10_put_81 (by decide) (fun _ => ?_) (fun c_77 => absurd c_77 (by decide))
                refine lv_iconst (v := (-1)) hC.x hC.b dX10_put_93 (by decide) ?_
                exact reti hC hK hR hS (by first | exact Or.inl (⟨by first | rfl | omega, by first | rfl | assumption, by rfl, by first | omega | assumption, by first | omega | assumption, by first | omega | assumption⟩) | exact Or.inr ((⟨by first | rfl | omega, by rfl, by (have e9 : n = 201 := by omega); subst e9; assumption, by first | omega | assumption⟩)) | exact False.elim (by omega)) dX10_put_94
          · skip
            refine bz_eq (tgt := 95) (a := 0) (b := 0) hC.x hC.b rfl rfl dX10_put_67 (by decide) (fun _ => ?_) (fun c_78 => absurd c_78 (by decide))
            refine lv_aload_n hC.x hC.b dX10_put_95 rfl (lv_at hl 0 rfl) ?_
            refine rget hC hK hR (ct_model G _ _) rfl uin_X10 0 (by decide) TF_X10_9 rfl dX10_put_96 ?_
            refine lv_iload_n hC.x hC.b dX10_put_99 rfl (lv_at hl 1 rfl) ?_
            refine lv_iload_n hC.x hC.b dX10_put_100 rfl (lv_at hl 2 rfl) ?_
            refine ast hC hK hG hR hS (fun _ => ct_m_kinds G _ _) rfl (by omega) (by omega) hp_q dX10_put_101 (fun s_79 es_80 H locs hR hS => ?_)
            refine lv_aload_n hC.x hC.b dX10_put_102 rfl (lv_at hl 0 rfl) ?_
            refine rget hC hK hR (ct_model G _ _) rfl uin_X10 1 (by decide) TF_X10_13 rfl dX10_put_103 ?_
            refine lv_iload_n hC.x hC.b dX10_put_106 rfl (lv_at hl 1 rfl) ?_
            refine lv_iload_n hC.x hC.b dX10_put_107 rfl (lv_at hl 3 rfl) ?_
            refine ast hC hK hG hR hS (fun _ => ct_m_one G _ _) rfl (by omega) (by omega) hp_q dX10_put_108 (fun s_81 es_82 H locs hR hS => ?_)
            refine lv_aload_n hC.x hC.b dX10_put_109 rfl (lv_at hl 0 rfl) ?_
            refine rget hC hK hR (ct_model G _ _) rfl uin_X10 2 (by decide) TF_X10_16 rfl dX10_put_110 ?_
            refine lv_iload_n hC.x hC.b dX10_put_113 rfl (lv_at hl 1 rfl) ?_
            refine lv_iload hC.x hC.b dX10_put_114 (lv_at hl 4 rfl) ?_
            refine ast hC hK hG hR hS (fun _ => ct_m_two G _ _) rfl (by omega) (by omega) hp_q dX10_put_116 (fun s_83 es_84 H locs hR hS => ?_)
            refine lv_aload_n hC.x hC.b dX10_put_117 rfl (lv_at hl 0 rfl) ?_
            refine rget hC hK hR (ct_model G _ _) rfl uin_X10 3 (by decide) TF_X10_19 rfl dX10_put_118 ?_
            refine lv_iload_n hC.x hC.b dX10_put_121 rfl (lv_at hl 1 rfl) ?_
            refine lv_iconst (v := 0) hC.x hC.b dX10_put_122 (by decide) ?_
            refine zast hC hK hG hR hS (fun _ => ct_m_taken G _ _) rfl (by omega) (by omega) hp_q (Or.inl rfl) dX10_put_123 (fun s_85 es_86 H locs hR hS => ?_)
            refine lv_aload_n hC.x hC.b dX10_put_124 rfl (lv_at hl 0 rfl) ?_
            refine rget hC hK hR (ct_model G _ _) rfl uin_X10 4 (by decide) TF_X10_23 rfl dX10_put_125 ?_
            refine lv_iload_n hC.x hC.b dX10_put_128 rfl (lv_at hl 1 rfl) ?_
            refine lv_iconst (v := 0) hC.x hC.b dX10_put_129 (by decide) ?_
            refine zast hC hK hG hR hS (fun _ => ct_m_called G _ _) rfl (by omega) (by omega) hp_q (Or.inl rfl) dX10_put_130 (fun s_87 es_88 H locs hR hS => ?_)
            refine lv_aload_n hC.x hC.b dX10_put_131 rfl (lv_at hl 0 rfl) ?_
            refine rget hC hK hR (ct_model G _ _) rfl uin_X10 5 (by decide) TF_X10_26 rfl dX10_put_132 ?_
            refine lv_iload_n hC.x hC.b dX10_put_135 rfl (lv_at hl 1 rfl) ?_
            refine lv_iconst (v := 0) hC.x hC.b dX10_put_136 (by decide) ?_
            refine zast hC hK hG hR hS (fun _ => ct_m_isOut G _ _) rfl (by omega) (by omega) hp_q (Or.inl rfl) dX10_put_137 (fun s_89 es_90 H locs hR hS => ?_)
            refine lv_aload_n hC.x hC.b dX10_put_138 rfl (lv_at hl 0 rfl) ?_
            refine rget hC hK hR (ct_model G _ _) rfl uin_X10 6 (by decide) TF_X10_29 rfl dX10_put_139 ?_
            refine lv_iload_n hC.x hC.b dX10_put_142 rfl (lv_at hl 1 rfl) ?_
            refine lv_iconst (v := 0) hC.x hC.b dX10_put_143 (by decide) ?_
            refine ast hC hK hG hR hS (fun _ => ct_m_setting G _ _) rfl (by omega) (by omega) hp_q dX10_put_144 (fun s_91 es_92 H locs hR hS => ?_)
            refine lv_aload_n hC.x hC.b dX10_put_145 rfl (lv_at hl 0 rfl) ?_
            refine rget hC hK hR (ct_model G _ _) rfl uin_X10 7 (by decide) TF_X10_32 rfl dX10_put_146 ?_
            refine lv_iload_n hC.x hC.b dX10_put_149 rfl (lv_at hl 1 rfl) ?_
            refine lv_aload_n hC.x hC.b dX10_put_150 rfl (lv_at hl 0 rfl) ?_
            refine rget hC hK hR (ct_model G _ _) rfl uin_X10 29 (by decide) TF_X10_137 rfl dX10_put_151 ?_
            have rd_93 : (s_91 35 29).toInt = (σ 35 29).toInt := congrArg Int32.toInt (Eq.trans (show s_91 35 29 = s_89 35 29 from (by rw [es_92]; exact up2_o (by omega))) (Eq.trans (show s_89 35 29 = s_87 35 29 from (by rw [es_90]; exact up2_o (by omega))) (Eq.trans (show s_87 35 29 = s_85 35 29 from (by rw [es_88]; exact up2_o (by omega))) (Eq.trans (show s_85 35 29 = s_83 35 29 from (by rw [es_86]; exact up2_o (by omega))) (Eq.trans (show s_83 35 29 = s_81 35 29 from (by rw [es_84]; exact up2_o (by omega))) (Eq.trans (show s_81 35 29 = s_79 35 29 from (by rw [es_82]; exact up2_o (by omega))) (show s_79 35 29 = σ 35 29 from (by rw [es_80]; exact up2_o (by omega)))))))))
            refine ast hC hK hG hR hS (fun _ => ct_m_since G _ _) rfl (by omega) (by omega) hp_q dX10_put_154 (fun s_94 es_95 H locs hR hS => ?_)
            refine lv_aload_n hC.x hC.b dX10_put_155 rfl (lv_at hl 0 rfl) ?_
            refine rget hC hK hR (ct_model G _ _) rfl uin_X10 8 (by decide) TF_X10_35 rfl dX10_put_156 ?_
            refine lv_iload_n hC.x hC.b dX10_put_159 rfl (lv_at hl 1 rfl) ?_
            refine lv_bipush (v := (-9)) hC.x hC.b dX10_put_160 (by decide) ?_
            refine ast hC hK hG hR hS (fun _ => ct_m_suspect G _ _) rfl (by omega) (by omega) hp_q dX10_put_162 (fun s_96 es_97 H locs hR hS => ?_)
            refine lv_aload_n hC.x hC.b dX10_put_163 rfl (lv_at hl 0 rfl) ?_
            refine rget hC hK hR (ct_model G _ _) rfl uin_X10 9 (by decide) TF_X10_38 rfl dX10_put_164 ?_
            refine lv_iload_n hC.x hC.b dX10_put_167 rfl (lv_at hl 1 rfl) ?_
            refine lv_iconst (v := 0) hC.x hC.b dX10_put_168 (by decide) ?_
            refine ast hC hK hG hR hS (fun _ => ct_m_stepMany G _ _) rfl (by omega) (by omega) hp_q dX10_put_169 (fun s_98 es_99 H locs hR hS => ?_)
            refine lv_aload_n hC.x hC.b dX10_put_170 rfl (lv_at hl 0 rfl) ?_
            refine rget hC hK hR (ct_model G _ _) rfl uin_X10 10 (by decide) TF_X10_41 rfl dX10_put_171 ?_
            refine lv_iload_n hC.x hC.b dX10_put_174 rfl (lv_at hl 1 rfl) ?_
            refine lv_iconst (v := 0) hC.x hC.b dX10_put_175 (by decide) ?_
            refine ast hC hK hG hR hS (fun _ => ct_m_drifts G _ _) rfl (by omega) (by omega) hp_q dX10_put_176 (fun s_100 es_101 H locs hR hS => ?_)
            refine lv_aload_n hC.x hC.b dX10_put_177 rfl (lv_at hl 0 rfl) ?_
            refine rget hC hK hR (ct_model G _ _) rfl uin_X10 11 (by decide) TF_X10_44 rfl dX10_put_178 ?_
            refine lv_iload_n hC.x hC.b dX10_put_181 rfl (lv_at hl 1 rfl) ?_
            refine lv_iconst (v := 0) hC.x hC.b dX10_put_182 (by decide) ?_
            refine ast hC hK hG hR hS (fun _ => ct_m_ways G _ _) rfl (by omega) (by omega) hp_q dX10_put_183 (fun s_102 es_103 H locs hR hS => ?_)
            refine lv_iconst (v := 0) hC.x hC.b dX10_put_184 (by decide) ?_
            refine lv_istore (lv' := [(5, .int (0 : Int32)), (0, .ref (G.2.1 35)), (1, .int pl), (2, .int ka), (3, .int fa), (4, .int sa)]) hC.x hC.b dX10_put_185 hl (by decide) rfl (fun ls hl => ?_)
            have L_187 : ∀ (F : Nat) (n : Nat) (s1 : SI), (201 - n) < F → (n ≤ 201) → (TornN (up2 (up2 (up2 (up2 (up2 (up2 (up2 (up2 (up2 (up2 (up2 (up2 σ 36 q ka) 37 q fa) 38 q sa) 39 q 0) 40 q 0) 41 q 0) 42 q 0) 43 q (σ 35 29)) 44 q (-9)) 45 q 0) 46 q 0) 47 q 0) s1 q n) → ∀ (H : Heap) (locs : List Loc) (ls : Array Slot), RepH G s1 τ H → va_S A s.heap H locs → lv_has ls 6 [(0, .ref (G.2.1 35)), (1, .int pl), (5, .int (nI n))] → W p l e (rmD 2) s m args below meth c H locs 0 0 (MQ below (va_Qi (po_X10_put σ τ pl q ka fa fq sa sq) (BU G) A) args s 0 0 A) (F0 m 187 ls []) := by
              intro F
              induction F with
              | zero => intro n s1 hm; exact absurd hm (Nat.not_lt_zero _)
              | succ F ih_187 =>
                intro n s1 hm_187 hi0_187 hi1_187 H locs ls hR hS hl
                have hnI := nI_T n (by omega)
                refine lv_iload hC.x hC.b dX10_put_187 (lv_at hl 2 rfl) ?_
                refine lv_sipush (v := 201) hC.x hC.b dX10_put_189 (by decide) ?_
                refine bi_ge (tgt := 227) (a := (n : Int)) (b := 201) hC.x hC.b (nI_T n (by omega)) rfl dX10_put_192 (by decide) (fun c_104 => ?_) (fun c_104 => ?_)
                · skip
                  refine lv_iload_n hC.x hC.b dX10_put_227 rfl (lv_at hl 1 rfl) ?_
                  exact reti hC hK hR hS (by first | exact Or.inl (⟨by first | rfl | omega, by first | rfl | assumption, by rfl, by first | omega | assumption, by first | omega | assumption, by first | omega | assumption⟩) | exact Or.inr ((⟨by first | rfl | omega, by rfl, by (have e9 : n = 201 := by omega); subst e9; assumption, by first | omega | assumption⟩)) | exact False.elim (by omega)) dX10_put_228
                · skip
                  refine lv_aload_n hC.x hC.b dX10_put_195 rfl (lv_at hl 0 rfl) ?_
                  refine rget hC hK hR (ct_model G _ _) rfl uin_X10 14 (by decide) TF_X10_53 rfl dX10_put_196 ?_
                  refine lv_aload_n hC.x hC.b dX10_put_199 rfl (lv_at hl 0 rfl) ?_
                  refine lv_iload hC.x hC.b dX10_put_200 (lv_at hl 2 rfl) ?_
                  refine lv_iload_n hC.x hC.b dX10_put_202 rfl (lv_at hl 1 rfl) ?_
                  have av_105 : (nI n).toInt = (n : Int) := (nI_T n (by omega))
                  refine goip (runV (As := [.int (nI n), .int pl]) (rest := [.ref (G.2.1 50)]) hC hK hR hl.1 (c_X10_at l hG s1 τ (nI n) n (by first | rfl | (rw [show (nI n).toInt = (n : Int) from (nI_T n (by omega))]; done) | (rw [show (nI n).toInt = (n : Int) from (nI_T n (by omega))]; exact (Int.toNat_natCast _))) pl q (by first | rfl | (rw [show pl.toInt = pl.toInt from rfl]; done) | (rw [show pl.toInt = pl.toInt from rfl]; exact hp_q)) (by omega) (by omega)) (call_b hC.ts TC_X10_at TN_X10 TM_X10_140 hd_X10_at ⟨Nat.le_of_ble_eq_true rfl, Nat.le_of_ble_eq_true rfl⟩) TI_X10_at TS_X10_at (ct_model G _ _) rfl rfl rfl (Nat.le_of_ble_eq_true rfl) dX10_put_203 ⟨Nat.le_of_ble_eq_true rfl, Nat.le_of_ble_eq_true rfl⟩) hS (fun v_106 H locs w_107 hR hS => ?_)
                  subst w_107
                  refine lv_iconst (v := 0) hC.x hC.b dX10_put_206 (by decide) ?_
                  refine zast hC hK hG hR hS (fun _ => ct_m_hasThere G _ _) (nI_T _ (by omega)) (by omega) (by omega) (Int.toNat_natCast _) (Or.inl rfl) dX10_put_207 (fun s_108 es_109 H locs hR hS => ?_)
                  refine lv_aload_n hC.x hC.b dX10_put_208 rfl (lv_at hl 0 rfl) ?_
                  refine rget hC hK hR (ct_model G _ _) rfl uin_X10 15 (by decide) TF_X10_56 rfl dX10_put_209 ?_
                  refine lv_aload_n hC.x hC.b dX10_put_212 rfl (lv_at hl 0 rfl) ?_
                  refine lv_iload hC.x hC.b dX10_put_213 (lv_at hl 2 rfl) ?_
                  refine lv_iload_n hC.x hC.b dX10_put_215 rfl (lv_at hl 1 rfl) ?_
                  have av_110 : (nI n).toInt = (n : Int) := (nI_T n (by omega))
                  refine goip (runV (As := [.int (nI n), .int pl]) (rest := [.ref (G.2.1 51)]) hC hK hR hl.1 (c_X10_at l hG s_108 τ (nI n) n (by first | rfl | (rw [show (nI n).toInt = (n : Int) from (nI_T n (by omega))]; done) | (rw [show (nI n).toInt = (n : Int) from (nI_T n (by omega))]; exact (Int.toNat_natCast _))) pl q (by first | rfl | (rw [show pl.toInt = pl.toInt from rfl]; done) | (rw [show pl.toInt = pl.toInt from rfl]; exact hp_q)) (by omega) (by omega)) (call_b hC.ts TC_X10_at TN_X10 TM_X10_140 hd_X10_at ⟨Nat.le_of_ble_eq_true rfl, Nat.le_of_ble_eq_true rfl⟩) TI_X10_at TS_X10_at (ct_model G _ _) rfl rfl rfl (Nat.le_of_ble_eq_true rfl) dX10_put_216 ⟨Nat.le_of_ble_eq_true rfl, Nat.le_of_ble_eq_true rfl⟩) hS (fun v_111 H locs w_112 hR hS => ?_)
                  subst w_112
                  refine lv_iconst (v := 0) hC.x hC.b dX10_put_219 (by decide) ?_
                  refine zast hC hK hG hR hS (fun _ => ct_m_hasBack G _ _) (nI_T _ (by omega)) (by omega) (by omega) (Int.toNat_natCast _) (Or.inl rfl) dX10_put_220 (fun s_113 es_114 H locs hR hS => ?_)
                  refine lv_iinc (v := nI (n + 1)) (lv' := [(5, .int (nI (n + 1))), (0, .ref (G.2.1 35)), (1, .int pl)]) hC.x hC.b dX10_put_221 hl (k := 2) rfl (nI_succ _).symm (by decide) rfl (fun ls hl => ?_)
                  refine lv_goto (tgt := 187) hC.x hC.b dX10_put_224 (by decide) ?_
                  exact ih_187 (n + 1) s_113 (by omega) (by first | omega | assumption) (by subst es_114; subst es_109; exact TornN.st (by assumption)) _ _ _ hR hS (lv_sub hl [1, 2, 0] rfl)
            exact L_187 _ 0 s_102 (Nat.lt_succ_self _) (by first | omega | assumption) (by subst es_103; subst es_101; subst es_99; subst es_97; subst es_95; subst es_92; subst es_90; subst es_88; subst es_86; subst es_84; subst es_82; subst es_80; exact TornN.rf) _ _ _ hR hS (lv_sub hl [1, 2, 0] rfl)
        · skip
          refine lv_iload_n hC.x hC.b dX10_put_37 rfl (lv_at hl 3 rfl) ?_
          refine lv_iconst (v := 2) hC.x hC.b dX10_put_38 (by decide) ?_
          refine lv_bipush (v := 12) hC.x hC.b dX10_put_39 (by decide) ?_
          have av_115 : (2 : Int32).toInt = 2 := by decide
          have av_116 : (12 : Int32).toInt = 12 := by decide
          refine goip (runS (As := [.int fa, .int (2 : Int32), .int (12 : Int32)]) (rest := []) hC hK hR hl.1 (c_X10_isIn l hG σ τ fa (2 : Int32) (12 : Int32) ) (call_b hC.ts TC_X10_isIn TN_X10 TM_X10_129 hd_X10_isIn ⟨Nat.le_of_ble_eq_true rfl, Nat.le_of_ble_eq_true rfl⟩) TT_X10_isIn rfl rfl (Nat.le_of_ble_eq_true rfl) dX10_put_41 ⟨Nat.le_of_ble_eq_true rfl, Nat.le_of_ble_eq_true rfl⟩) hS (fun v_117 H locs w_118 hR hS => ?_)
          rcases w_118 with ⟨rfl, f_119, f_120⟩ | ⟨rfl, f_121⟩
          · skip
            refine bz_eq (tgt := 58) (a := 1) (b := 0) hC.x hC.b rfl rfl dX10_put_44 (by decide) (fun c_122 => absurd c_122 (by decide)) (fun _ => ?_)
            refine lv_iload hC.x hC.b dX10_put_47 (lv_at hl 4 rfl) ?_
            refine lv_iconst (v := 1) hC.x hC.b dX10_put_49 (by decide) ?_
            refine lv_bipush (v := 12) hC.x hC.b dX10_put_50 (by decide) ?_
            have av_123 : (1 : Int32).toInt = 1 := by decide
            have av_124 : (12 : Int32).toInt = 12 := by decide
            refine goip (runS (As := [.int sa, .int (1 : Int32), .int (12 : Int32)]) (rest := []) hC hK hR hl.1 (c_X10_isIn l hG σ τ sa (1 : Int32) (12 : Int32) ) (call_b hC.ts TC_X10_isIn TN_X10 TM_X10_129 hd_X10_isIn ⟨Nat.le_of_ble_eq_true rfl, Nat.le_of_ble_eq_true rfl⟩) TT_X10_isIn rfl rfl (Nat.le_of_ble_eq_true rfl) dX10_put_52 ⟨Nat.le_of_ble_eq_true rfl, Nat.le_of_ble_eq_true rfl⟩) hS (fun v_125 H locs w_126 hR hS => ?_)
            rcases w_126 with ⟨rfl, f_127, f_128⟩ | ⟨rfl, f_129⟩
            · skip
              refine bz_ne (tgt := 60) (a := 1) (b := 0) hC.x hC.b rfl rfl dX10_put_55 (by decide) (fun _ => ?_) (fun c_130 => absurd c_130 (by decide))
              refine lv_iload_n hC.x hC.b dX10_put_60 rfl (lv_at hl 2 rfl) ?_
              refine lv_iconst (v := 4) hC.x hC.b dX10_put_61 (by decide) ?_
              refine lv_bipush (v := 6) hC.x hC.b dX10_put_62 (by decide) ?_
              have av_131 : (4 : Int32).toInt = 4 := by decide
              have av_132 : (6 : Int32).toInt = 6 := by decide
              refine goip (runS (As := [.int ka, .int (4 : Int32), .int (6 : Int32)]) (rest := []) hC hK hR hl.1 (c_X10_isIn l hG σ τ ka (4 : Int32) (6 : Int32) ) (call_b hC.ts TC_X10_isIn TN_X10 TM_X10_129 hd_X10_isIn ⟨Nat.le_of_ble_eq_true rfl, Nat.le_of_ble_eq_true rfl⟩) TT_X10_isIn rfl rfl (Nat.le_of_ble_eq_true rfl) dX10_put_64 ⟨Nat.le_of_ble_eq_true rfl, Nat.le_of_ble_eq_true rfl⟩) hS (fun v_133 H locs w_134 hR hS => ?_)
              rcases w_134 with ⟨rfl, f_135, f_136⟩ | ⟨rfl, f_137⟩
              · skip
                refine bz_eq (tgt := 95) (a := 1) (b := 0) hC.x hC.b rfl rfl dX10_put_67 (by decide) (fun c_138 => absurd c_138 (by decide)) (fun _ => ?_)
                refine lv_iload_n hC.x hC.b dX10_put_70 rfl (lv_at hl 3 rfl) ?_
                refine lv_iload hC.x hC.b dX10_put_71 (lv_at hl 4 rfl) ?_
                refine bi_eq (tgt := 93) (a := fa.toInt) (b := sa.toInt) hC.x hC.b rfl rfl dX10_put_73 (by decide) (fun c_139 => ?_) (fun c_139 => ?_)
                · skip
                  refine lv_iconst (v := (-1)) hC.x hC.b dX10_put_93 (by decide) ?_
                  exact reti hC hK hR hS (by first | exact Or.inl (⟨by first | rfl | omega, by first | rfl | assumption, by rfl, by first | omega | assumption, by first | omega | assumption, by first | omega | assumption⟩) | exact Or.inr ((⟨by first | rfl | omega, by rfl, by (have e9 : n = 201 := by omega); subst e9; assumption, by first | omega | assumption⟩)) | exact False.elim (by omega)) dX10_put_94
                · skip
                  refine lv_aload_n hC.x hC.b dX10_put_76 rfl (lv_at hl 0 rfl) ?_
                  refine lv_iload_n hC.x hC.b dX10_put_77 rfl (lv_at hl 3 rfl) ?_
                  refine goip (runV (As := [.int fa]) (rest := []) hC hK hR hl.1 (c_X10_isClock l hG σ τ fa fq (by first | rfl | (rw [show fa.toInt = fa.toInt from rfl]; done) | (rw [show fa.toInt = fa.toInt from rfl]; exact hp_fq)) ) (call_b hC.ts TC_X10_isClock TN_X10 TM_X10_133 hd_X10_isClock ⟨Nat.le_of_ble_eq_true rfl, Nat.le_of_ble_eq_true rfl⟩) TI_X10_isClock TS_X10_isClock (ct_model G _ _) rfl rfl rfl (Nat.le_of_ble_eq_true rfl) dX10_put_78 ⟨Nat.le_of_ble_eq_true rfl, Nat.le_of_ble_eq_true rfl⟩) hS (fun v_140 H locs w_141 hR hS => ?_)
                  rcases w_141 with ⟨rfl, f_142, f_143⟩ | ⟨rfl, f_144⟩
                  · skip
                    refine bz_eq (tgt := 93) (a := 1) (b := 0) hC.x hC.b rfl rfl dX10_put_81 (by decide) (fun c_145 => absurd c_145 (by decide)) (fun _ => ?_)
                    refine lv_aload_n hC.x hC.b dX10_put_84 rfl (lv_at hl 0 rfl) ?_
                    refine lv_iload hC.x hC.b dX10_put_85 (lv_at hl 4 rfl) ?_
                    refine goip (runV (As := [.int sa]) (rest := []) hC hK hR hl.1 (c_X10_isClock l hG σ τ sa sq (by first | rfl | (rw [show sa.toInt = sa.toInt from rfl]; done) | (rw [show sa.toInt = sa.toInt from rfl]; exact hp_sq)) ) (call_b hC.ts TC_X10_isClock TN_X10 TM_X10_133 hd_X10_isClock ⟨Nat.le_of_ble_eq_true rfl, Nat.le_of_ble_eq_true rfl⟩) TI_X10_isClock TS_X10_isClock (ct_model G _ _) rfl rfl rfl (Nat.le_of_ble_eq_true rfl) dX10_put_87 ⟨Nat.le_of_ble_eq_true rfl, Nat.le_of_ble_eq_true rfl⟩) hS (fun v_146 H locs w_147 hR hS => ?_)
                    rcases w_147 with ⟨rfl, f_148, f_149⟩ | ⟨rfl, f_150⟩
                    · skip
                      refine bz_ne (tgt := 95) (a := 1) (b := 0) hC.x hC.b rfl rfl dX10_put_90 (by decide) (fun _ => ?_) (fun c_151 => absurd c_151 (by decide))
                      refine lv_aload_n hC.x hC.b dX10_put_95 rfl (lv_at hl 0 rfl) ?_
                      refine rget hC hK hR (ct_model G _ _) rfl uin_X10 0 (by decide) TF_X10_9 rfl dX10_put_96 ?_
                      refine lv_iload_n hC.x hC.b dX10_put_99 rfl (lv_at hl 1 rfl) ?_
                      refine lv_iload_n hC.x hC.b dX10_put_100 rfl (lv_at hl 2 rfl) ?_
                      refine ast hC hK hG hR hS (fun _ => ct_m_kinds G _ _) rfl (by omega) (by omega) hp_q dX10_put_101 (fun s_152 es_153 H locs hR hS => ?_)
                      refine lv_aload_n hC.x hC.b dX10_put_102 rfl (lv_at hl 0 rfl) ?_
                      refine rget hC hK hR (ct_model G _ _) rfl uin_X10 1 (by decide) TF_X10_13 rfl dX10_put_103 ?_
                      refine lv_iload_n hC.x hC.b dX10_put_106 rfl (lv_at hl 1 rfl) ?_
                      refine lv_iload_n hC.x hC.b dX10_put_107 rfl (lv_at hl 3 rfl) ?_
                      refine ast hC hK hG hR hS (fun _ => ct_m_one G _ _) rfl (by omega) (by omega) hp_q dX10_put_108 (fun s_154 es_155 H locs hR hS => ?_)
                      refine lv_aload_n hC.x hC.b dX10_put_109 rfl (lv_at hl 0 rfl) ?_
                      refine rget hC hK hR (ct_model G _ _) rfl uin_X10 2 (by decide) TF_X10_16 rfl dX10_put_110 ?_
                      refine lv_iload_n hC.x hC.b dX10_put_113 rfl (lv_at hl 1 rfl) ?_
                      refine lv_iload hC.x hC.b dX10_put_114 (lv_at hl 4 rfl) ?_
                      refine ast hC hK hG hR hS (fun _ => ct_m_two G _ _) rfl (by omega) (by omega) hp_q dX10_put_116 (fun s_156 es_157 H locs hR hS => ?_)
                      refine lv_aload_n hC.x hC.b dX10_put_117 rfl (lv_at hl 0 rfl) ?_
                      refine rget hC hK hR (ct_model G _ _) rfl uin_X10 3 (by decide) TF_X10_19 rfl dX10_put_118 ?_
                      refine lv_iload_n hC.x hC.b dX10_put_121 rfl (lv_at hl 1 rfl) ?_
                      refine lv_iconst (v := 0) hC.x hC.b dX10_put_122 (by decide) ?_
                      refine zast hC hK hG hR hS (fun _ => ct_m_taken G _ _) rfl (by omega) (by omega) hp_q (Or.inl rfl) dX10_put_123 (fun s_158 es_159 H locs hR hS => ?_)
                      refine lv_aload_n hC.x hC.b dX10_put_124 rfl (lv_at hl 0 rfl) ?_
                      refine rget hC hK hR (ct_model G _ _) rfl uin_X10 4 (by decide) TF_X10_23 rfl dX10_put_125 ?_
                      refine lv_iload_n hC.x hC.b dX10_put_128 rfl (lv_at hl 1 rfl) ?_
                      refine lv_iconst (v := 0) hC.x hC.b dX10_put_129 (by decide) ?_
                      refine zast hC hK hG hR hS (fun _ => ct_m_called G _ _) rfl (by omega) (by omega) hp_q (Or.inl rfl) dX10_put_130 (fun s_160 es_161 H locs hR hS => ?_)
                      refine lv_aload_n hC.x hC.b dX10_put_131 rfl (lv_at hl 0 rfl) ?_
                      refine rget hC hK hR (ct_model G _ _) rfl uin_X10 5 (by decide) TF_X10_26 rfl dX10_put_132 ?_
                      refine lv_iload_n hC.x hC.b dX10_put_135 rfl (lv_at hl 1 rfl) ?_
                      refine lv_iconst (v := 0) hC.x hC.b dX10_put_136 (by decide) ?_
                      refine zast hC hK hG hR hS (fun _ => ct_m_isOut G _ _) rfl (by omega) (by omega) hp_q (Or.inl rfl) dX10_put_137 (fun s_162 es_163 H locs hR hS => ?_)
                      refine lv_aload_n hC.x hC.b dX10_put_138 rfl (lv_at hl 0 rfl) ?_
                      refine rget hC hK hR (ct_model G _ _) rfl uin_X10 6 (by decide) TF_X10_29 rfl dX10_put_139 ?_
                      refine lv_iload_n hC.x hC.b dX10_put_142 rfl (lv_at hl 1 rfl) ?_
                      refine lv_iconst (v := 0) hC.x hC.b dX10_put_143 (by decide) ?_
                      refine ast hC hK hG hR hS (fun _ => ct_m_setting G _ _) rfl (by omega) (by omega) hp_q dX10_put_144 (fun s_164 es_165 H locs hR hS => ?_)
                      refine lv_aload_n hC.x hC.b dX10_put_145 rfl (lv_at hl 0 rfl) ?_
                      refine rget hC hK hR (ct_model G _ _) rfl uin_X10 7 (by decide) TF_X10_32 rfl dX10_put_146 ?_
                      refine lv_iload_n hC.x hC.b dX10_put_149 rfl (lv_at hl 1 rfl) ?_
                      refine lv_aload_n hC.x hC.b dX10_put_150 rfl (lv_at hl 0 rfl) ?_
                      refine rget hC hK hR (ct_model G _ _) rfl uin_X10 29 (by decide) TF_X10_137 rfl dX10_put_151 ?_
                      have rd_166 : (s_164 35 29).toInt = (σ 35 29).toInt := congrArg Int32.toInt (Eq.trans (show s_164 35 29 = s_162 35 29 from (by rw [es_165]; exact up2_o (by omega))) (Eq.trans (show s_162 35 29 = s_160 35 29 from (by rw [es_163]; exact up2_o (by omega))) (Eq.trans (show s_160 35 29 = s_158 35 29 from (by rw [es_161]; exact up2_o (by omega))) (Eq.trans (show s_158 35 29 = s_156 35 29 from (by rw [es_159]; exact up2_o (by omega))) (Eq.trans (show s_156 35 29 = s_154 35 29 from (by rw [es_157]; exact up2_o (by omega))) (Eq.trans (show s_154 35 29 = s_152 35 29 from (by rw [es_155]; exact up2_o (by omega))) (show s_152 35 29 = σ 35 29 from (by rw [es_153]; exact up2_o (by omega)))))))))
                      refine ast hC hK hG hR hS (fun _ => ct_m_since G _ _) rfl (by omega) (by omega) hp_q dX10_put_154 (fun s_167 es_168 H locs hR hS => ?_)
                      refine lv_aload_n hC.x hC.b dX10_put_155 rfl (lv_at hl 0 rfl) ?_
                      refine rget hC hK hR (ct_model G _ _) rfl uin_X10 8 (by decide) TF_X10_35 rfl dX10_put_156 ?_
                      refine lv_iload_n hC.x hC.b dX10_put_159 rfl (lv_at hl 1 rfl) ?_
                      refine lv_bipush (v := (-9)) hC.x hC.b dX10_put_160 (by decide) ?_
                      refine ast hC hK hG hR hS (fun _ => ct_m_suspect G _ _) rfl (by omega) (by omega) hp_q dX10_put_162 (fun s_169 es_170 H locs hR hS => ?_)
                      refine lv_aload_n hC.x hC.b dX10_put_163 rfl (lv_at hl 0 rfl) ?_
                      refine rget hC hK hR (ct_model G _ _) rfl uin_X10 9 (by decide) TF_X10_38 rfl dX10_put_164 ?_
                      refine lv_iload_n hC.x hC.b dX10_put_167 rfl (lv_at hl 1 rfl) ?_
                      refine lv_iconst (v := 0) hC.x hC.b dX10_put_168 (by decide) ?_
                      refine ast hC hK hG hR hS (fun _ => ct_m_stepMany G _ _) rfl (by omega) (by omega) hp_q dX10_put_169 (fun s_171 es_172 H locs hR hS => ?_)
                      refine lv_aload_n hC.x hC.b dX10_put_170 rfl (lv_at hl 0 rfl) ?_
                      refine rget hC hK hR (ct_model G _ _) rfl uin_X10 10 (by decide) TF_X10_41 rfl dX10_put_171 ?_
                      refine lv_iload_n hC.x hC.b dX10_put_174 rfl (lv_at hl 1 rfl) ?_
                      refine lv_iconst (v := 0) hC.x hC.b dX10_put_175 (by decide) ?_
                      refine ast hC hK hG hR hS (fun _ => ct_m_drifts G _ _) rfl (by omega) (by omega) hp_q dX10_put_176 (fun s_173 es_174 H locs hR hS => ?_)
                      refine lv_aload_n hC.x hC.b dX10_put_177 rfl (lv_at hl 0 rfl) ?_
                      refine rget hC hK hR (ct_model G _ _) rfl uin_X10 11 (by decide) TF_X10_44 rfl dX10_put_178 ?_
                      refine lv_iload_n hC.x hC.b dX10_put_181 rfl (lv_at hl 1 rfl) ?_
                      refine lv_iconst (v := 0) hC.x hC.b dX10_put_182 (by decide) ?_
                      refine ast hC hK hG hR hS (fun _ => ct_m_ways G _ _) rfl (by omega) (by omega) hp_q dX10_put_183 (fun s_175 es_176 H locs hR hS => ?_)
                      refine lv_iconst (v := 0) hC.x hC.b dX10_put_184 (by decide) ?_
                      refine lv_istore (lv' := [(5, .int (0 : Int32)), (0, .ref (G.2.1 35)), (1, .int pl), (2, .int ka), (3, .int fa), (4, .int sa)]) hC.x hC.b dX10_put_185 hl (by decide) rfl (fun ls hl => ?_)
                      have L_187 : ∀ (F : Nat) (n : Nat) (s1 : SI), (201 - n) < F → (n ≤ 201) → (TornN (up2 (up2 (up2 (up2 (up2 (up2 (up2 (up2 (up2 (up2 (up2 (up2 σ 36 q ka) 37 q fa) 38 q sa) 39 q 0) 40 q 0) 41 q 0) 42 q 0) 43 q (σ 35 29)) 44 q (-9)) 45 q 0) 46 q 0) 47 q 0) s1 q n) → ∀ (H : Heap) (locs : List Loc) (ls : Array Slot), RepH G s1 τ H → va_S A s.heap H locs → lv_has ls 6 [(0, .ref (G.2.1 35)), (1, .int pl), (5, .int (nI n))] → W p l e (rmD 2) s m args below meth c H locs 0 0 (MQ below (va_Qi (po_X10_put σ τ pl q ka fa fq sa sq) (BU G) A) args s 0 0 A) (F0 m 187 ls []) := by
                        intro F
                        induction F with
                        | zero => intro n s1 hm; exact absurd hm (Nat.not_lt_zero _)
                        | succ F ih_187 =>
                          intro n s1 hm_187 hi0_187 hi1_187 H locs ls hR hS hl
                          have hnI := nI_T n (by omega)
                          refine lv_iload hC.x hC.b dX10_put_187 (lv_at hl 2 rfl) ?_
                          refine lv_sipush (v := 201) hC.x hC.b dX10_put_189 (by decide) ?_
                          refine bi_ge (tgt := 227) (a := (n : Int)) (b := 201) hC.x hC.b (nI_T n (by omega)) rfl dX10_put_192 (by decide) (fun c_177 => ?_) (fun c_177 => ?_)
                          · skip
                            refine lv_iload_n hC.x hC.b dX10_put_227 rfl (lv_at hl 1 rfl) ?_
                            exact reti hC hK hR hS (by first | exact Or.inl (⟨by first | rfl | omega, by first | rfl | assumption, by rfl, by first | omega | assumption, by first | omega | assumption, by first | omega | assumption⟩) | exact Or.inr ((⟨by first | rfl | omega, by rfl, by (have e9 : n = 201 := by omega); subst e9; assumption, by first | omega | assumption⟩)) | exact False.elim (by omega)) dX10_put_228
                          · skip
                            refine lv_aload_n hC.x hC.b dX10_put_195 rfl (lv_at hl 0 rfl) ?_
                            refine rget hC hK hR (ct_model G _ _) rfl uin_X10 14 (by decide) TF_X10_53 rfl dX10_put_196 ?_
                            refine lv_aload_n hC.x hC.b dX10_put_199 rfl (lv_at hl 0 rfl) ?_
                            refine lv_iload hC.x hC.b dX10_put_200 (lv_at hl 2 rfl) ?_
                            refine lv_iload_n hC.x hC.b dX10_put_202 rfl (lv_at hl 1 rfl) ?_
                            have av_178 : (nI n).toInt = (n : Int) := (nI_T n (by omega))
                            refine goip (runV (As := [.int (nI n), .int pl]) (rest := [.ref (G.2.1 50)]) hC hK hR hl.1 (c_X10_at l hG s1 τ (nI n) n (by first | rfl | (rw [show (nI n).toInt = (n : Int) from (nI_T n (by omega))]; done) | (rw [show (nI n).toInt = (n : Int) from (nI_T n (by omega))]; exact (Int.toNat_natCast _))) pl q (by first | rfl | (rw [show pl.toInt = pl.toInt from rfl]; done) | (rw [show pl.toInt = pl.toInt from rfl]; exact hp_q)) (by omega) (by omega)) (call_b hC.ts TC_X10_at TN_X10 TM_X10_140 hd_X10_at ⟨Nat.le_of_ble_eq_true rfl, Nat.le_of_ble_eq_true rfl⟩) TI_X10_at TS_X10_at (ct_model G _ _) rfl rfl rfl (Nat.le_of_ble_eq_true rfl) dX10_put_203 ⟨Nat.le_of_ble_eq_true rfl, Nat.le_of_ble_eq_true rfl⟩) hS (fun v_179 H locs w_180 hR hS => ?_)
                            subst w_180
                            refine lv_iconst (v := 0) hC.x hC.b dX10_put_206 (by decide) ?_
                            refine zast hC hK hG hR hS (fun _ => ct_m_hasThere G _ _) (nI_T _ (by omega)) (by omega) (by omega) (Int.toNat_natCast _) (Or.inl rfl) dX10_put_207 (fun s_181 es_182 H locs hR hS => ?_)
                            refine lv_aload_n hC.x hC.b dX10_put_208 rfl (lv_at hl 0 rfl) ?_
                            refine rget hC hK hR (ct_model G _ _) rfl uin_X10 15 (by decide) TF_X10_56 rfl dX10_put_209 ?_
                            refine lv_aload_n hC.x hC.b dX10_put_212 rfl (lv_at hl 0 rfl) ?_
                            refine lv_iload hC.x hC.b dX10_put_213 (lv_at hl 2 rfl) ?_
                            refine lv_iload_n hC.x hC.b dX10_put_215 rfl (lv_at hl 1 rfl) ?_
                            have av_183 : (nI n).toInt = (n : Int) := (nI_T n (by omega))
                            refine goip (runV (As := [.int (nI n), .int pl]) (rest := [.ref (G.2.1 51)]) hC hK hR hl.1 (c_X10_at l hG s_181 τ (nI n) n (by first | rfl | (rw [show (nI n).toInt = (n : Int) from (nI_T n (by omega))]; done) | (rw [show (nI n).toInt = (n : Int) from (nI_T n (by omega))]; exact (Int.toNat_natCast _))) pl q (by first | rfl | (rw [show pl.toInt = pl.toInt from rfl]; done) | (rw [show pl.toInt = pl.toInt from rfl]; exact hp_q)) (by omega) (by omega)) (call_b hC.ts TC_X10_at TN_X10 TM_X10_140 hd_X10_at ⟨Nat.le_of_ble_eq_true rfl, Nat.le_of_ble_eq_true rfl⟩) TI_X10_at TS_X10_at (ct_model G _ _) rfl rfl rfl (Nat.le_of_ble_eq_true rfl) dX10_put_216 ⟨Nat.le_of_ble_eq_true rfl, Nat.le_of_ble_eq_true rfl⟩) hS (fun v_184 H locs w_185 hR hS => ?_)
                            subst w_185
                            refine lv_iconst (v := 0) hC.x hC.b dX10_put_219 (by decide) ?_
                            refine zast hC hK hG hR hS (fun _ => ct_m_hasBack G _ _) (nI_T _ (by omega)) (by omega) (by omega) (Int.toNat_natCast _) (Or.inl rfl) dX10_put_220 (fun s_186 es_187 H locs hR hS => ?_)
                            refine lv_iinc (v := nI (n + 1)) (lv' := [(5, .int (nI (n + 1))), (0, .ref (G.2.1 35)), (1, .int pl)]) hC.x hC.b dX10_put_221 hl (k := 2) rfl (nI_succ _).symm (by decide) rfl (fun ls hl => ?_)
                            refine lv_goto (tgt := 187) hC.x hC.b dX10_put_224 (by decide) ?_
                            exact ih_187 (n + 1) s_186 (by omega) (by first | omega | assumption) (by subst es_187; subst es_182; exact TornN.st (by assumption)) _ _ _ hR hS (lv_sub hl [1, 2, 0] rfl)
                      exact L_187 _ 0 s_175 (Nat.lt_succ_self _) (by first | omega | assumption) (by subst es_176; subst es_174; subst es_172; subst es_170; subst es_168; subst es_165; subst es_163; subst es_161; subst es_159; subst es_157; subst es_155; subst es_153; exact TornN.rf) _ _ _ hR hS (lv_sub hl [1, 2, 0] rfl)
                    · skip
                      refine bz_ne (tgt := 95) (a := 0) (b := 0) hC.x hC.b rfl rfl dX10_put_90 (by decide) (fun c_188 => absurd c_188 (by decide)) (fun _ => ?_)
                      refine lv_iconst (v := (-1)) hC.x hC.b dX10_put_93 (by decide) ?_
                      exact reti hC hK hR hS (by first | exact Or.inl (⟨by first | rfl | omega, by first | rfl | assumption, by rfl, by first | omega | assumption, by first | omega | assumption, by first | omega | assumption⟩) | exact Or.inr ((⟨by first | rfl | omega, by rfl, by (have e9 : n = 201 := by omega); subst e9; assumption, by first | omega | assumption⟩)) | exact False.elim (by omega)) dX10_put_94
                  · skip
                    refine bz_eq (tgt := 93) (a := 0) (b := 0) hC.x hC.b rfl rfl dX10_put_81 (by decide) (fun _ => ?_) (fun c_189 => absurd c_189 (by decide))
                    refine lv_iconst (v := (-1)) hC.x hC.b dX10_put_93 (by decide) ?_
                    exact reti hC hK hR hS (by first | exact Or.inl (⟨by first | rfl | omega, by first | rfl | assumption, by rfl, by first | omega | assumption, by first | omega | assumption, by first | omega | assumption⟩) | exact Or.inr ((⟨by first | rfl | omega, by rfl, by (have e9 : n = 201 := by omega); subst e9; assumption, by first | omega | assumption⟩)) | exact False.elim (by omega)) dX10_put_94
              · skip
                refine bz_eq (tgt := 95) (a := 0) (b := 0) hC.x hC.b rfl rfl dX10_put_67 (by decide) (fun _ => ?_) (fun c_190 => absurd c_190 (by decide))
                refine lv_aload_n hC.x hC.b dX10_put_95 rfl (lv_at hl 0 rfl) ?_
                refine rget hC hK hR (ct_model G _ _) rfl uin_X10 0 (by decide) TF_X10_9 rfl dX10_put_96 ?_
                refine lv_iload_n hC.x hC.b dX10_put_99 rfl (lv_at hl 1 rfl) ?_
                refine lv_iload_n hC.x hC.b dX10_put_100 rfl (lv_at hl 2 rfl) ?_
                refine ast hC hK hG hR hS (fun _ => ct_m_kinds G _ _) rfl (by omega) (by omega) hp_q dX10_put_101 (fun s_191 es_192 H locs hR hS => ?_)
                refine lv_aload_n hC.x hC.b dX10_put_102 rfl (lv_at hl 0 rfl) ?_
                refine rget hC hK hR (ct_model G _ _) rfl uin_X10 1 (by decide) TF_X10_13 rfl dX10_put_103 ?_
                refine lv_iload_n hC.x hC.b dX10_put_106 rfl (lv_at hl 1 rfl) ?_
                refine lv_iload_n hC.x hC.b dX10_put_107 rfl (lv_at hl 3 rfl) ?_
                refine ast hC hK hG hR hS (fun _ => ct_m_one G _ _) rfl (by omega) (by omega) hp_q dX10_put_108 (fun s_193 es_194 H locs hR hS => ?_)
                refine lv_aload_n hC.x hC.b dX10_put_109 rfl (lv_at hl 0 rfl) ?_
                refine rget hC hK hR (ct_model G _ _) rfl uin_X10 2 (by decide) TF_X10_16 rfl dX10_put_110 ?_
                refine lv_iload_n hC.x hC.b dX10_put_113 rfl (lv_at hl 1 rfl) ?_
                refine lv_iload hC.x hC.b dX10_put_114 (lv_at hl 4 rfl) ?_
                refine ast hC hK hG hR hS (fun _ => ct_m_two G _ _) rfl (by omega) (by omega) hp_q dX10_put_116 (fun s_195 es_196 H locs hR hS => ?_)
                refine lv_aload_n hC.x hC.b dX10_put_117 rfl (lv_at hl 0 rfl) ?_
                refine rget hC hK hR (ct_model G _ _) rfl uin_X10 3 (by decide) TF_X10_19 rfl dX10_put_118 ?_
                refine lv_iload_n hC.x hC.b dX10_put_121 rfl (lv_at hl 1 rfl) ?_
                refine lv_iconst (v := 0) hC.x hC.b dX10_put_122 (by decide) ?_
                refine zast hC hK hG hR hS (fun _ => ct_m_taken G _ _) rfl (by omega) (by omega) hp_q (Or.inl rfl) dX10_put_123 (fun s_197 es_198 H locs hR hS => ?_)
                refine lv_aload_n hC.x hC.b dX10_put_124 rfl (lv_at hl 0 rfl) ?_
                refine rget hC hK hR (ct_model G _ _) rfl uin_X10 4 (by decide) TF_X10_23 rfl dX10_put_125 ?_
                refine lv_iload_n hC.x hC.b dX10_put_128 rfl (lv_at hl 1 rfl) ?_
                refine lv_iconst (v := 0) hC.x hC.b dX10_put_129 (by decide) ?_
                refine zast hC hK hG hR hS (fun _ => ct_m_called G _ _) rfl (by omega) (by omega) hp_q (Or.inl rfl) dX10_put_130 (fun s_199 es_200 H locs hR hS => ?_)
                refine lv_aload_n hC.x hC.b dX10_put_131 rfl (lv_at hl 0 rfl) ?_
                refine rget hC hK hR (ct_model G _ _) rfl uin_X10 5 (by decide) TF_X10_26 rfl dX10_put_132 ?_
                refine lv_iload_n hC.x hC.b dX10_put_135 rfl (lv_at hl 1 rfl) ?_
                refine lv_iconst (v := 0) hC.x hC.b dX10_put_136 (by decide) ?_
                refine zast hC hK hG hR hS (fun _ => ct_m_isOut G _ _) rfl (by omega) (by omega) hp_q (Or.inl rfl) dX10_put_137 (fun s_201 es_202 H locs hR hS => ?_)
                refine lv_aload_n hC.x hC.b dX10_put_138 rfl (lv_at hl 0 rfl) ?_
                refine rget hC hK hR (ct_model G _ _) rfl uin_X10 6 (by decide) TF_X10_29 rfl dX10_put_139 ?_
                refine lv_iload_n hC.x hC.b dX10_put_142 rfl (lv_at hl 1 rfl) ?_
                refine lv_iconst (v := 0) hC.x hC.b dX10_put_143 (by decide) ?_
                refine ast hC hK hG hR hS (fun _ => ct_m_setting G _ _) rfl (by omega) (by omega) hp_q dX10_put_144 (fun s_203 es_204 H locs hR hS => ?_)
                refine lv_aload_n hC.x hC.b dX10_put_145 rfl (lv_at hl 0 rfl) ?_
                refine rget hC hK hR (ct_model G _ _) rfl uin_X10 7 (by decide) TF_X10_32 rfl dX10_put_146 ?_
                refine lv_iload_n hC.x hC.b dX10_put_149 rfl (lv_at hl 1 rfl) ?_
                refine lv_aload_n hC.x hC.b dX10_put_150 rfl (lv_at hl 0 rfl) ?_
                refine rget hC hK hR (ct_model G _ _) rfl uin_X10 29 (by decide) TF_X10_137 rfl dX10_put_151 ?_
                have rd_205 : (s_203 35 29).toInt = (σ 35 29).toInt := congrArg Int32.toInt (Eq.trans (show s_203 35 29 = s_201 35 29 from (by rw [es_204]; exact up2_o (by omega))) (Eq.trans (show s_201 35 29 = s_199 35 29 from (by rw [es_202]; exact up2_o (by omega))) (Eq.trans (show s_199 35 29 = s_197 35 29 from (by rw [es_200]; exact up2_o (by omega))) (Eq.trans (show s_197 35 29 = s_195 35 29 from (by rw [es_198]; exact up2_o (by omega))) (Eq.trans (show s_195 35 29 = s_193 35 29 from (by rw [es_196]; exact up2_o (by omega))) (Eq.trans (show s_193 35 29 = s_191 35 29 from (by rw [es_194]; exact up2_o (by omega))) (show s_191 35 29 = σ 35 29 from (by rw [es_192]; exact up2_o (by omega)))))))))
                refine ast hC hK hG hR hS (fun _ => ct_m_since G _ _) rfl (by omega) (by omega) hp_q dX10_put_154 (fun s_206 es_207 H locs hR hS => ?_)
                refine lv_aload_n hC.x hC.b dX10_put_155 rfl (lv_at hl 0 rfl) ?_
                refine rget hC hK hR (ct_model G _ _) rfl uin_X10 8 (by decide) TF_X10_35 rfl dX10_put_156 ?_
                refine lv_iload_n hC.x hC.b dX10_put_159 rfl (lv_at hl 1 rfl) ?_
                refine lv_bipush (v := (-9)) hC.x hC.b dX10_put_160 (by decide) ?_
                refine ast hC hK hG hR hS (fun _ => ct_m_suspect G _ _) rfl (by omega) (by omega) hp_q dX10_put_162 (fun s_208 es_209 H locs hR hS => ?_)
                refine lv_aload_n hC.x hC.b dX10_put_163 rfl (lv_at hl 0 rfl) ?_
                refine rget hC hK hR (ct_model G _ _) rfl uin_X10 9 (by decide) TF_X10_38 rfl dX10_put_164 ?_
                refine lv_iload_n hC.x hC.b dX10_put_167 rfl (lv_at hl 1 rfl) ?_
                refine lv_iconst (v := 0) hC.x hC.b dX10_put_168 (by decide) ?_
                refine ast hC hK hG hR hS (fun _ => ct_m_stepMany G _ _) rfl (by omega) (by omega) hp_q dX10_put_169 (fun s_210 es_211 H locs hR hS => ?_)
                refine lv_aload_n hC.x hC.b dX10_put_170 rfl (lv_at hl 0 rfl) ?_
                refine rget hC hK hR (ct_model G _ _) rfl uin_X10 10 (by decide) TF_X10_41 rfl dX10_put_171 ?_
                refine lv_iload_n hC.x hC.b dX10_put_174 rfl (lv_at hl 1 rfl) ?_
                refine lv_iconst (v := 0) hC.x hC.b dX10_put_175 (by decide) ?_
                refine ast hC hK hG hR hS (fun _ => ct_m_drifts G _ _) rfl (by omega) (by omega) hp_q dX10_put_176 (fun s_212 es_213 H locs hR hS => ?_)
                refine lv_aload_n hC.x hC.b dX10_put_177 rfl (lv_at hl 0 rfl) ?_
                refine rget hC hK hR (ct_model G _ _) rfl uin_X10 11 (by decide) TF_X10_44 rfl dX10_put_178 ?_
                refine lv_iload_n hC.x hC.b dX10_put_181 rfl (lv_at hl 1 rfl) ?_
                refine lv_iconst (v := 0) hC.x hC.b dX10_put_182 (by decide) ?_
                refine ast hC hK hG hR hS (fun _ => ct_m_ways G _ _) rfl (by omega) (by omega) hp_q dX10_put_183 (fun s_214 es_215 H locs hR hS => ?_)
                refine lv_iconst (v := 0) hC.x hC.b dX10_put_184 (by decide) ?_
                refine lv_istore (lv' := [(5, .int (0 : Int32)), (0, .ref (G.2.1 35)), (1, .int pl), (2, .int ka), (3, .int fa), (4, .int sa)]) hC.x hC.b dX10_put_185 hl (by decide) rfl (fun ls hl => ?_)
                have L_187 : ∀ (F : Nat) (n : Nat) (s1 : SI), (201 - n) < F → (n ≤ 201) → (TornN (up2 (up2 (up2 (up2 (up2 (up2 (up2 (up2 (up2 (up2 (up2 (up2 σ 36 q ka) 37 q fa) 38 q sa) 39 q 0) 40 q 0) 41 q 0) 42 q 0) 43 q (σ 35 29)) 44 q (-9)) 45 q 0) 46 q 0) 47 q 0) s1 q n) → ∀ (H : Heap) (locs : List Loc) (ls : Array Slot), RepH G s1 τ H → va_S A s.heap H locs → lv_has ls 6 [(0, .ref (G.2.1 35)), (1, .int pl), (5, .int (nI n))] → W p l e (rmD 2) s m args below meth c H locs 0 0 (MQ below (va_Qi (po_X10_put σ τ pl q ka fa fq sa sq) (BU G) A) args s 0 0 A) (F0 m 187 ls []) := by
                  intro F
                  induction F with
                  | zero => intro n s1 hm; exact absurd hm (Nat.not_lt_zero _)
                  | succ F ih_187 =>
                    intro n s1 hm_187 hi0_187 hi1_187 H locs ls hR hS hl
                    have hnI := nI_T n (by omega)
                    refine lv_iload hC.x hC.b dX10_put_187 (lv_at hl 2 rfl) ?_
                    refine lv_sipush (v := 201) hC.x hC.b dX10_put_189 (by decide) ?_
                    refine bi_ge (tgt := 227) (a := (n : Int)) (b := 201) hC.x hC.b (nI_T n (by omega)) rfl dX10_put_192 (by decide) (fun c_216 => ?_) (fun c_216 => ?_)
                    · skip
                      refine lv_iload_n hC.x hC.b dX10_put_227 rfl (lv_at hl 1 rfl) ?_
                      exact reti hC hK hR hS (by first | exact Or.inl (⟨by first | rfl | omega, by first | rfl | assumption, by rfl, by first | omega | assumption, by first | omega | assumption, by first | omega | assumption⟩) | exact Or.inr ((⟨by first | rfl | omega, by rfl, by (have e9 : n = 201 := by omega); subst e9; assumption, by first | omega | assumption⟩)) | exact False.elim (by omega)) dX10_put_228
                    · skip
                      refine lv_aload_n hC.x hC.b dX10_put_195 rfl (lv_at hl 0 rfl) ?_
                      refine rget hC hK hR (ct_model G _ _) rfl uin_X10 14 (by decide) TF_X10_53 rfl dX10_put_196 ?_
                      refine lv_aload_n hC.x hC.b dX10_put_199 rfl (lv_at hl 0 rfl) ?_
                      refine lv_iload hC.x hC.b dX10_put_200 (lv_at hl 2 rfl) ?_
                      refine lv_iload_n hC.x hC.b dX10_put_202 rfl (lv_at hl 1 rfl) ?_
                      have av_217 : (nI n).toInt = (n : Int) := (nI_T n (by omega))
                      refine goip (runV (As := [.int (nI n), .int pl]) (rest := [.ref (G.2.1 50)]) hC hK hR hl.1 (c_X10_at l hG s1 τ (nI n) n (by first | rfl | (rw [show (nI n).toInt = (n : Int) from (nI_T n (by omega))]; done) | (rw [show (nI n).toInt = (n : Int) from (nI_T n (by omega))]; exact (Int.toNat_natCast _))) pl q (by first | rfl | (rw [show pl.toInt = pl.toInt from rfl]; done) | (rw [show pl.toInt = pl.toInt from rfl]; exact hp_q)) (by omega) (by omega)) (call_b hC.ts TC_X10_at TN_X10 TM_X10_140 hd_X10_at ⟨Nat.le_of_ble_eq_true rfl, Nat.le_of_ble_eq_true rfl⟩) TI_X10_at TS_X10_at (ct_model G _ _) rfl rfl rfl (Nat.le_of_ble_eq_true rfl) dX10_put_203 ⟨Nat.le_of_ble_eq_true rfl, Nat.le_of_ble_eq_true rfl⟩) hS (fun v_218 H locs w_219 hR hS => ?_)
                      subst w_219
                      refine lv_iconst (v := 0) hC.x hC.b dX10_put_206 (by decide) ?_
                      refine zast hC hK hG hR hS (fun _ => ct_m_hasThere G _ _) (nI_T _ (by omega)) (by omega) (by omega) (Int.toNat_natCast _) (Or.inl rfl) dX10_put_207 (fun s_220 es_221 H locs hR hS => ?_)
                      refine lv_aload_n hC.x hC.b dX10_put_208 rfl (lv_at hl 0 rfl) ?_
                      refine rget hC hK hR (ct_model G _ _) rfl uin_X10 15 (by decide) TF_X10_56 rfl dX10_put_209 ?_
                      refine lv_aload_n hC.x hC.b dX10_put_212 rfl (lv_at hl 0 rfl) ?_
                      refine lv_iload hC.x hC.b dX10_put_213 (lv_at hl 2 rfl) ?_
                      refine lv_iload_n hC.x hC.b dX10_put_215 rfl (lv_at hl 1 rfl) ?_
                      have av_222 : (nI n).toInt = (n : Int) := (nI_T n (by omega))
                      refine goip (runV (As := [.int (nI n), .int pl]) (rest := [.ref (G.2.1 51)]) hC hK hR hl.1 (c_X10_at l hG s_220 τ (nI n) n (by first | rfl | (rw [show (nI n).toInt = (n : Int) from (nI_T n (by omega))]; done) | (rw [show (nI n).toInt = (n : Int) from (nI_T n (by omega))]; exact (Int.toNat_natCast _))) pl q (by first | rfl | (rw [show pl.toInt = pl.toInt from rfl]; done) | (rw [show pl.toInt = pl.toInt from rfl]; exact hp_q)) (by omega) (by omega)) (call_b hC.ts TC_X10_at TN_X10 TM_X10_140 hd_X10_at ⟨Nat.le_of_ble_eq_true rfl, Nat.le_of_ble_eq_true rfl⟩) TI_X10_at TS_X10_at (ct_model G _ _) rfl rfl rfl (Nat.le_of_ble_eq_true rfl) dX10_put_216 ⟨Nat.le_of_ble_eq_true rfl, Nat.le_of_ble_eq_true rfl⟩) hS (fun v_223 H locs w_224 hR hS => ?_)
                      subst w_224
                      refine lv_iconst (v := 0) hC.x hC.b dX10_put_219 (by decide) ?_
                      refine zast hC hK hG hR hS (fun _ => ct_m_hasBack G _ _) (nI_T _ (by omega)) (by omega) (by omega) (Int.toNat_natCast _) (Or.inl rfl) dX10_put_220 (fun s_225 es_226 H locs hR hS => ?_)
                      refine lv_iinc (v := nI (n + 1)) (lv' := [(5, .int (nI (n + 1))), (0, .ref (G.2.1 35)), (1, .int pl)]) hC.x hC.b dX10_put_221 hl (k := 2) rfl (nI_succ _).symm (by decide) rfl (fun ls hl => ?_)
                      refine lv_goto (tgt := 187) hC.x hC.b dX10_put_224 (by decide) ?_
                      exact ih_187 (n + 1) s_225 (by omega) (by first | omega | assumption) (by subst es_226; subst es_221; exact TornN.st (by assumption)) _ _ _ hR hS (lv_sub hl [1, 2, 0] rfl)
                exact L_187 _ 0 s_214 (Nat.lt_succ_self _) (by first | omega | assumption) (by subst es_215; subst es_213; subst es_211; subst es_209; subst es_207; subst es_204; subst es_202; subst es_200; subst es_198; subst es_196; subst es_194; subst es_192; exact TornN.rf) _ _ _ hR hS (lv_sub hl [1, 2, 0] rfl)
            · skip
              refine bz_ne (tgt := 60) (a := 0) (b := 0) hC.x hC.b rfl rfl dX10_put_55 (by decide) (fun c_227 => absurd c_227 (by decide)) (fun _ => ?_)
              refine lv_iconst (v := (-1)) hC.x hC.b dX10_put_58 (by decide) ?_
              exact reti hC hK hR hS (by first | exact Or.inl (⟨by first | rfl | omega, by first | rfl | assumption, by rfl, by first | omega | assumption, by first | omega | assumption, by first | omega | assumption⟩) | exact Or.inr ((⟨by first | rfl | omega, by rfl, by (have e9 : n = 201 := by omega); subst e9; assumption, by first | omega | assumption⟩)) | exact False.elim (by omega)) dX10_put_59
          · skip
            refine bz_eq (tgt := 58) (a := 0) (b := 0) hC.x hC.b rfl rfl dX10_put_44 (by decide) (fun _ => ?_) (fun c_228 => absurd c_228 (by decide))
            refine lv_iconst (v := (-1)) hC.x hC.b dX10_put_58 (by decide) ?_
            exact reti hC hK hR hS (by first | exact Or.inl (⟨by first | rfl | omega, by first | rfl | assumption, by rfl, by first | omega | assumption, by first | omega | assumption, by first | omega | assumption⟩) | exact Or.inr ((⟨by first | rfl | omega, by rfl, by (have e9 : n = 201 := by omega); subst e9; assumption, by first | omega | assumption⟩)) | exact False.elim (by omega)) dX10_put_59
      · skip
        refine bz_ne (tgt := 32) (a := 0) (b := 0) hC.x hC.b rfl rfl dX10_put_27 (by decide) (fun c_229 => absurd c_229 (by decide)) (fun _ => ?_)
        refine lv_iconst (v := (-1)) hC.x hC.b dX10_put_30 (by decide) ?_
        exact reti hC hK hR hS (by first | exact Or.inl (⟨by first | rfl | omega, by first | rfl | assumption, by rfl, by first | omega | assumption, by first | omega | assumption, by first | omega | assumption⟩) | exact Or.inr ((⟨by first | rfl | omega, by rfl, by (have e9 : n = 201 := by omega); subst e9; assumption, by first | omega | assumption⟩)) | exact False.elim (by omega)) dX10_put_31
  · skip
    refine bz_eq (tgt := 30) (a := 0) (b := 0) hC.x hC.b rfl rfl dX10_put_7 (by decide) (fun _ => ?_) (fun c_230 => absurd c_230 (by decide))
    refine lv_iconst (v := (-1)) hC.x hC.b dX10_put_30 (by decide) ?_
    exact reti hC hK hR hS (by first | exact Or.inl (⟨by first | rfl | omega, by first | rfl | assumption, by rfl, by first | omega | assumption, by first | omega | assumption, by first | omega | assumption⟩) | exact Or.inr ((⟨by first | rfl | omega, by rfl, by (have e9 : n = 201 := by omega); subst e9; assumption, by first | omega | assumption⟩)) | exact False.elim (by omega)) dX10_put_31

abbrev po_X10_lift (σ : SI) (τ : SL) (pl : Int32) (q : Nat) : Int32 → SI × SL → Prop := fun v u => ((v = (-1)) ∧ (u.1 = σ) ∧ (u.2 = τ) ∧ (¬ (0 ≤ pl.toInt ∧ pl.toInt < 24) ∨ (σ 36 q).toInt = -1 ∨ ¬ (0 ≤ (σ 36 q).toInt ∧ (σ 36 q).toInt ≤ 7))) ∨ ((v = (-2)) ∧ (u.1 = σ) ∧ (u.2 = τ) ∧ (hasLkM σ pl) ∧ (0 ≤ pl.toInt ∧ pl.toInt < 24) ∧ (0 ≤ (σ 36 q).toInt ∧ (σ 36 q).toInt ≤ 3)) ∨ ((v = σ 36 q) ∧ (u.1 = up2 σ 36 q (-1)) ∧ (u.2 = τ) ∧ (0 ≤ pl.toInt ∧ pl.toInt < 24) ∧ (0 ≤ (σ 36 q).toInt ∧ (σ 36 q).toInt ≤ 7) ∧ (¬ hasLkM σ pl ∨ ¬ (0 ≤ (σ 36 q).toInt ∧ (σ 36 q).toInt ≤ 3)))
set_option maxRecDepth 100000 in
set_option maxHeartbeats 4000000 in
theorem c_X10_lift (l : Launch) {G : Gx} {A : Nat → Prop} (hG : GOk G A) (σ : SI) (τ : SL) (pl : Int32) (q : Nat) (hp_q : pl.toInt.toNat = q) : MI l G A 2 yX10_lift cX10_lift 3 (some .int) [.ref (G.2.1 35), .int pl] (σ, τ) (po_X10_lift σ τ pl q) := by
  refine met_of (own := RX10) (by decide +kernel) rfl [(0, .ref (G.2.1 35)), (1, .int pl)] rfl (Nat.le_of_ble_eq_true rfl) ?_
  intro p e s m args below meth c ls hC hK hR hl
  have hS : va_S A s.heap s.heap [] := va_S.rf
  refine lv_aload_n hC.x hC.b dX10_lift_0 rfl (lv_at hl 0 rfl) ?_
  refine lv_iload_n hC.x hC.b dX10_lift_1 rfl (lv_at hl 1 rfl) ?_
  refine lv_iconst (v := 0) hC.x hC.b dX10_lift_2 (by decide) ?_
  refine lv_bipush (v := 7) hC.x hC.b dX10_lift_3 (by decide) ?_
  have av_1 : (0 : Int32).toInt = 0 := by decide
  have av_2 : (7 : Int32).toInt = 7 := by decide
  refine goip (runV (As := [.int pl, .int (0 : Int32), .int (7 : Int32)]) (rest := []) hC hK hR hl.1 (c_X10_fails l hG σ τ pl q (by first | rfl | (rw [show pl.toInt = pl.toInt from rfl]; done) | (rw [show pl.toInt = pl.toInt from rfl]; exact hp_q)) (0 : Int32) (7 : Int32) ) (call_b hC.ts TC_X10_fails TN_X10 TM_X10_144 hd_X10_fails ⟨Nat.le_of_ble_eq_true rfl, Nat.le_of_ble_eq_true rfl⟩) TI_X10_fails TS_X10_fails (ct_model G _ _) rfl rfl rfl (Nat.le_of_ble_eq_true rfl) dX10_lift_5 ⟨Nat.le_of_ble_eq_true rfl, Nat.le_of_ble_eq_true rfl⟩) hS (fun v_3 H locs w_4 hR hS => ?_)
  rcases w_4 with ⟨rfl, f_5⟩ | ⟨rfl, f_6, f_7, f_8⟩ | ⟨rfl, f_9, f_10, f_11⟩
  · skip
    refine bz_eq (tgt := 13) (a := (-1)) (b := 0) hC.x hC.b rfl rfl dX10_lift_8 (by decide) (fun c_12 => absurd c_12 (by decide)) (fun _ => ?_)
    refine lv_iconst (v := (-1)) hC.x hC.b dX10_lift_11 (by decide) ?_
    exact reti hC hK hR hS (by first | exact Or.inl (⟨by first | rfl | omega, by first | rfl | assumption, by rfl, by first | omega | assumption⟩) | exact Or.inr (Or.inr ((⟨by first | rfl | omega, by first | rfl | assumption, by rfl, by first | omega | assumption, by first | omega | assumption, by first | (right; omega) | (left; rintro ⟨j, h1, h2, h3, h4⟩; exact hi1_15 j (by omega) ⟨h2, h3, h4⟩)⟩))) | exact False.elim (by omega)) dX10_lift_12
  · skip
    refine bz_eq (tgt := 13) (a := 0) (b := 0) hC.x hC.b rfl rfl dX10_lift_8 (by decide) (fun _ => ?_) (fun c_13 => absurd c_13 (by decide))
    refine lv_iconst (v := 0) hC.x hC.b dX10_lift_13 (by decide) ?_
    refine lv_istore_n (lv' := [(2, .int (0 : Int32)), (0, .ref (G.2.1 35)), (1, .int pl)]) hC.x hC.b dX10_lift_14 rfl hl (by decide) rfl (fun ls hl => ?_)
    have L_15 : ∀ (F : Nat) (n : Nat), (24 - n) < F → (n ≤ 24) → (∀ j, j < n → ¬ (4 ≤ (σ 36 j).toInt ∧ (σ 36 j).toInt ≤ 6 ∧ ((σ 37 j).toInt = pl.toInt ∨ (σ 38 j).toInt = pl.toInt))) → ∀ (H : Heap) (locs : List Loc) (ls : Array Slot), RepH G σ τ H → va_S A s.heap H locs → lv_has ls 3 [(0, .ref (G.2.1 35)), (1, .int pl), (2, .int (nI n))] → W p l e (rmD 2) s m args below meth c H locs 0 0 (MQ below (va_Qi (po_X10_lift σ τ pl q) (BU G) A) args s 0 0 A) (F0 m 15 ls []) := by
      intro F
      induction F with
      | zero => intro n hm; exact absurd hm (Nat.not_lt_zero _)
      | succ F ih_15 =>
        intro n hm_15 hi0_15 hi1_15 H locs ls hR hS hl
        have hnI := nI_T n (by omega)
        refine lv_iload_n hC.x hC.b dX10_lift_15 rfl (lv_at hl 2 rfl) ?_
        refine lv_bipush (v := 24) hC.x hC.b dX10_lift_16 (by decide) ?_
        refine bi_ge (tgt := 66) (a := (n : Int)) (b := 24) hC.x hC.b (nI_T n (by omega)) rfl dX10_lift_18 (by decide) (fun c_14 => ?_) (fun c_14 => ?_)
        · skip
          refine lv_aload_n hC.x hC.b dX10_lift_66 rfl (lv_at hl 0 rfl) ?_
          refine rget hC hK hR (ct_model G _ _) rfl uin_X10 0 (by decide) TF_X10_9 rfl dX10_lift_67 ?_
          refine lv_iload_n hC.x hC.b dX10_lift_70 rfl (lv_at hl 1 rfl) ?_
          refine ald hC hK hR (ct_m_kinds G _ _) rfl (by omega) (by omega) hp_q dX10_lift_71 ?_
          refine lv_istore_n (lv' := [(2, .int (σ 36 q)), (0, .ref (G.2.1 35)), (1, .int pl)]) hC.x hC.b dX10_lift_72 rfl hl (by decide) rfl (fun ls hl => ?_)
          refine lv_aload_n hC.x hC.b dX10_lift_73 rfl (lv_at hl 1 rfl) ?_
          refine rget hC hK hR (ct_model G _ _) rfl uin_X10 0 (by decide) TF_X10_9 rfl dX10_lift_74 ?_
          refine lv_iload_n hC.x hC.b dX10_lift_77 rfl (lv_at hl 2 rfl) ?_
          refine lv_iconst (v := (-1)) hC.x hC.b dX10_lift_78 (by decide) ?_
          refine ast hC hK hG hR hS (fun _ => ct_m_kinds G _ _) rfl (by omega) (by omega) hp_q dX10_lift_79 (fun s_15 es_16 H locs hR hS => ?_)
          refine lv_iload_n hC.x hC.b dX10_lift_80 rfl (lv_at hl 0 rfl) ?_
          exact reti hC hK hR hS (by first | exact Or.inl (⟨by subst es_16; (first | rfl | omega), by subst es_16; (first | rfl | assumption), by subst es_16; (rfl), by subst es_16; (first | omega | assumption)⟩) | exact Or.inr (Or.inl (⟨by subst es_16; (first | rfl | omega), by subst es_16; (first | rfl | assumption), by subst es_16; (rfl), by subst es_16; (exact ⟨n, by omega, by omega, by omega, by omega⟩), by subst es_16; (first | omega | assumption), by subst es_16; (first | omega | assumption)⟩)) | exact Or.inr (Or.inr ((⟨by subst es_16; (first | rfl | omega), by subst es_16; (first | rfl | assumption), by subst es_16; (rfl), by subst es_16; (first | omega | assumption), by subst es_16; (first | omega | assumption), by subst es_16; (first | (right; omega) | (left; rintro ⟨j, h1, h2, h3, h4⟩; exact hi1_15 j (by omega) ⟨h2, h3, h4⟩))⟩))) | exact False.elim (by omega)) dX10_lift_81
        · skip
          refine lv_aload_n hC.x hC.b dX10_lift_21 rfl (lv_at hl 0 rfl) ?_
          refine lv_iload_n hC.x hC.b dX10_lift_22 rfl (lv_at hl 1 rfl) ?_
          refine goip (runV (As := [.int pl]) (rest := []) hC hK hR hl.1 (c_X10_isClock l hG σ τ pl q (by first | rfl | (rw [show pl.toInt = pl.toInt from rfl]; done) | (rw [show pl.toInt = pl.toInt from rfl]; exact hp_q)) ) (call_b hC.ts TC_X10_isClock TN_X10 TM_X10_133 hd_X10_isClock ⟨Nat.le_of_ble_eq_true rfl, Nat.le_of_ble_eq_true rfl⟩) TI_X10_isClock TS_X10_isClock (ct_model G _ _) rfl rfl rfl (Nat.le_of_ble_eq_true rfl) dX10_lift_23 ⟨Nat.le_of_ble_eq_true rfl, Nat.le_of_ble_eq_true rfl⟩) hS (fun v_17 H locs w_18 hR hS => ?_)
          rcases w_18 with ⟨rfl, f_19, f_20⟩ | ⟨rfl, f_21⟩
          · skip
            refine bz_eq (tgt := 66) (a := 1) (b := 0) hC.x hC.b rfl rfl dX10_lift_26 (by decide) (fun c_22 => absurd c_22 (by decide)) (fun _ => ?_)
            refine lv_aload_n hC.x hC.b dX10_lift_29 rfl (lv_at hl 0 rfl) ?_
            refine lv_iload_n hC.x hC.b dX10_lift_30 rfl (lv_at hl 2 rfl) ?_
            have av_23 : (nI n).toInt = (n : Int) := (nI_T n (by omega))
            refine goip (runV (As := [.int (nI n)]) (rest := []) hC hK hR hl.1 (c_X10_isLink l hG σ τ (nI n) n (by first | rfl | (rw [show (nI n).toInt = (n : Int) from (nI_T n (by omega))]; done) | (rw [show (nI n).toInt = (n : Int) from (nI_T n (by omega))]; exact (Int.toNat_natCast _))) ) (call_b hC.ts TC_X10_isLink TN_X10 TM_X10_148 hd_X10_isLink ⟨Nat.le_of_ble_eq_true rfl, Nat.le_of_ble_eq_true rfl⟩) TI_X10_isLink TS_X10_isLink (ct_model G _ _) rfl rfl rfl (Nat.le_of_ble_eq_true rfl) dX10_lift_31 ⟨Nat.le_of_ble_eq_true rfl, Nat.le_of_ble_eq_true rfl⟩) hS (fun v_24 H locs w_25 hR hS => ?_)
            rcases w_25 with ⟨rfl, f_26, f_27⟩ | ⟨rfl, f_28⟩
            · skip
              refine bz_eq (tgt := 60) (a := 1) (b := 0) hC.x hC.b rfl rfl dX10_lift_34 (by decide) (fun c_29 => absurd c_29 (by decide)) (fun _ => ?_)
              refine lv_aload_n hC.x hC.b dX10_lift_37 rfl (lv_at hl 0 rfl) ?_
              refine rget hC hK hR (ct_model G _ _) rfl uin_X10 1 (by decide) TF_X10_13 rfl dX10_lift_38 ?_
              refine lv_iload_n hC.x hC.b dX10_lift_41 rfl (lv_at hl 2 rfl) ?_
              refine ald hC hK hR (ct_m_one G _ _) (nI_T n (by omega)) (by omega) (by omega) (Int.toNat_natCast _) dX10_lift_42 ?_
              refine lv_iload_n hC.x hC.b dX10_lift_43 rfl (lv_at hl 1 rfl) ?_
              refine bi_eq (tgt := 57) (a := (σ 37 n).toInt) (b := pl.toInt) hC.x hC.b rfl rfl dX10_lift_44 (by decide) (fun c_30 => ?_) (fun c_30 => ?_)
              · skip
                refine lv_bipush (v := (-2)) hC.x hC.b dX10_lift_57 (by decide) ?_
                exact reti hC hK hR hS (by first | exact Or.inr (Or.inl (⟨by first | rfl | omega, by first | rfl | assumption, by rfl, by exact ⟨n, by omega, by omega, by omega, by omega⟩, by first | omega | assumption, by first | omega | assumption⟩)) | exact Or.inr (Or.inr ((⟨by first | rfl | omega, by first | rfl | assumption, by rfl, by first | omega | assumption, by first | omega | assumption, by first | (right; omega) | (left; rintro ⟨j, h1, h2, h3, h4⟩; exact hi1_15 j (by omega) ⟨h2, h3, h4⟩)⟩))) | exact False.elim (by omega)) dX10_lift_59
              · skip
                refine lv_aload_n hC.x hC.b dX10_lift_47 rfl (lv_at hl 0 rfl) ?_
                refine rget hC hK hR (ct_model G _ _) rfl uin_X10 2 (by decide) TF_X10_16 rfl dX10_lift_48 ?_
                refine lv_iload_n hC.x hC.b dX10_lift_51 rfl (lv_at hl 2 rfl) ?_
                refine ald hC hK hR (ct_m_two G _ _) (nI_T n (by omega)) (by omega) (by omega) (Int.toNat_natCast _) dX10_lift_52 ?_
                refine lv_iload_n hC.x hC.b dX10_lift_53 rfl (lv_at hl 1 rfl) ?_
                refine bi_ne (tgt := 60) (a := (σ 38 n).toInt) (b := pl.toInt) hC.x hC.b rfl rfl dX10_lift_54 (by decide) (fun c_31 => ?_) (fun c_31 => ?_)
                · skip
                  refine lv_iinc (v := nI (n + 1)) (lv' := [(2, .int (nI (n + 1))), (0, .ref (G.2.1 35)), (1, .int pl)]) hC.x hC.b dX10_lift_60 hl (k := 2) rfl (nI_succ _).symm (by decide) rfl (fun ls hl => ?_)
                  refine lv_goto (tgt := 15) hC.x hC.b dX10_lift_63 (by decide) ?_
                  exact ih_15 (n + 1) (by omega) (by first | omega | assumption) (by intro j hj; by_cases e9 : j = n; (subst e9; omega); exact hi1_15 j (by omega)) _ _ _ hR hS (lv_sub hl [1, 2, 0] rfl)
                · skip
                  refine lv_bipush (v := (-2)) hC.x hC.b dX10_lift_57 (by decide) ?_
                  exact reti hC hK hR hS (by first | exact Or.inr (Or.inl (⟨by first | rfl | omega, by first | rfl | assumption, by rfl, by exact ⟨n, by omega, by omega, by omega, by omega⟩, by first | omega | assumption, by first | omega | assumption⟩)) | exact Or.inr (Or.inr ((⟨by first | rfl | omega, by first | rfl | assumption, by rfl, by first | omega | assumption, by first | omega | assumption, by first | (right; omega) | (left; rintro ⟨j, h1, h2, h3, h4⟩; exact hi1_15 j (by omega) ⟨h2, h3, h4⟩)⟩))) | exact False.elim (by omega)) dX10_lift_59
            · skip
              refine bz_eq (tgt := 60) (a := 0) (b := 0) hC.x hC.b rfl rfl dX10_lift_34 (by decide) (fun _ => ?_) (fun c_32 => absurd c_32 (by decide))
              refine lv_iinc (v := nI (n + 1)) (lv' := [(2, .int (nI (n + 1))), (0, .ref (G.2.1 35)), (1, .int pl)]) hC.x hC.b dX10_lift_60 hl (k := 2) rfl (nI_succ _).symm (by decide) rfl (fun ls hl => ?_)
              refine lv_goto (tgt := 15) hC.x hC.b dX10_lift_63 (by decide) ?_
              exact ih_15 (n + 1) (by omega) (by first | omega | assumption) (by intro j hj; by_cases e9 : j = n; (subst e9; omega); exact hi1_15 j (by omega)) _ _ _ hR hS (lv_sub hl [1, 2, 0] rfl)
          · skip
            refine bz_eq (tgt := 66) (a := 0) (b := 0) hC.x hC.b rfl rfl dX10_lift_26 (by decide) (fun _ => ?_) (fun c_33 => absurd c_33 (by decide))
            refine lv_aload_n hC.x hC.b dX10_lift_66 rfl (lv_at hl 0 rfl) ?_
            refine rget hC hK hR (ct_model G _ _) rfl uin_X10 0 (by decide) TF_X10_9 rfl dX10_lift_67 ?_
            refine lv_iload_n hC.x hC.b dX10_lift_70 rfl (lv_at hl 1 rfl) ?_
            refine ald hC hK hR (ct_m_kinds G _ _) rfl (by omega) (by omega) hp_q dX10_lift_71 ?_
            refine lv_istore_n (lv' := [(2, .int (σ 36 q)), (0, .ref (G.2.1 35)), (1, .int pl)]) hC.x hC.b dX10_lift_72 rfl hl (by decide) rfl (fun ls hl => ?_)
            refine lv_aload_n hC.x hC.b dX10_lift_73 rfl (lv_at hl 1 rfl) ?_
            refine rget hC hK hR (ct_model G _ _) rfl uin_X10 0 (by decide) TF_X10_9 rfl dX10_lift_74 ?_
            refine lv_iload_n hC.x hC.b dX10_lift_77 rfl (lv_at hl 2 rfl) ?_
            refine lv_iconst (v := (-1)) hC.x hC.b dX10_lift_78 (by decide) ?_
            refine ast hC hK hG hR hS (fun _ => ct_m_kinds G _ _) rfl (by omega) (by omega) hp_q dX10_lift_79 (fun s_34 es_35 H locs hR hS => ?_)
            refine lv_iload_n hC.x hC.b dX10_lift_80 rfl (lv_at hl 0 rfl) ?_
            exact reti hC hK hR hS (by first | exact Or.inl (⟨by subst es_35; (first | rfl | omega), by subst es_35; (first | rfl | assumption), by subst es_35; (rfl), by subst es_35; (first | omega | assumption)⟩) | exact Or.inr (Or.inl (⟨by subst es_35; (first | rfl | omega), by subst es_35; (first | rfl | assumption), by subst es_35; (rfl), by subst es_35; (exact ⟨n, by omega, by omega, by omega, by omega⟩), by subst es_35; (first | omega | assumption), by subst es_35; (first | omega | assumption)⟩)) | exact Or.inr (Or.inr ((⟨by subst es_35; (first | rfl | omega), by subst es_35; (first | rfl | assumption), by subst es_35; (rfl), by subst es_35; (first | omega | assumption), by subst es_35; (first | omega | assumption), by subst es_35; (first | (right; omega) | (left; rintro ⟨j, h1, h2, h3, h4⟩; exact hi1_15 j (by omega) ⟨h2, h3, h4⟩))⟩))) | exact False.elim (by omega)) dX10_lift_81
    exact L_15 _ 0 (Nat.lt_succ_self _) (by first | omega | assumption) (by intro j hj; omega) _ _ _ hR hS (lv_sub hl [1, 2, 0] rfl)
  · skip
    refine bz_eq (tgt := 13) (a := (-2)) (b := 0) hC.x hC.b rfl rfl dX10_lift_8 (by decide) (fun c_36 => absurd c_36 (by decide)) (fun _ => ?_)
    refine lv_iconst (v := (-1)) hC.x hC.b dX10_lift_11 (by decide) ?_
    exact reti hC hK hR hS (by first | exact Or.inl (⟨by first | rfl | omega, by first | rfl | assumption, by rfl, by first | omega | assumption⟩) | exact Or.inr (Or.inr ((⟨by first | rfl | omega, by first | rfl | assumption, by rfl, by first | omega | assumption, by first | omega | assumption, by first | (right; omega) | (left; rintro ⟨j, h1, h2, h3, h4⟩; exact hi1_15 j (by omega) ⟨h2, h3, h4⟩)⟩))) | exact False.elim (by omega)) dX10_lift_12

abbrev po_X10_kind (σ : SI) (τ : SL) (pl : Int32) (q : Nat) : Int32 → SI × SL → Prop := fun v u => u = (σ, τ) ∧ (((v = σ 36 q) ∧ (0 ≤ pl.toInt ∧ pl.toInt < 24)) ∨ ((v = (-1)) ∧ (¬ (0 ≤ pl.toInt ∧ pl.toInt < 24))))
set_option maxRecDepth 100000 in
set_option maxHeartbeats 4000000 in
theorem c_X10_kind (l : Launch) {G : Gx} {A : Nat → Prop} (hG : GOk G A) (σ : SI) (τ : SL) (pl : Int32) (q : Nat) (hp_q : pl.toInt.toNat = q) : MI l G A 1 yX10_kind cX10_kind 2 (some .int) [.ref (G.2.1 35), .int pl] (σ, τ) (po_X10_kind σ τ pl q) := by
  refine met_of (own := RX10) (by decide +kernel) rfl [(0, .ref (G.2.1 35)), (1, .int pl)] rfl (Nat.le_of_ble_eq_true rfl) ?_
  intro p e s m args below meth c ls hC hK hR hl
  have hS : va_S A s.heap s.heap [] := va_S.rf
  refine lv_iload_n hC.x hC.b dX10_kind_0 rfl (lv_at hl 1 rfl) ?_
  refine lv_iconst (v := 0) hC.x hC.b dX10_kind_1 (by decide) ?_
  refine lv_bipush (v := 23) hC.x hC.b dX10_kind_2 (by decide) ?_
  have av_1 : (0 : Int32).toInt = 0 := by decide
  have av_2 : (23 : Int32).toInt = 23 := by decide
  refine goip (runS (As := [.int pl, .int (0 : Int32), .int (23 : Int32)]) (rest := []) hC hK hR hl.1 (c_X10_isIn l hG σ τ pl (0 : Int32) (23 : Int32) ) (call_b hC.ts TC_X10_isIn TN_X10 TM_X10_129 hd_X10_isIn ⟨Nat.le_of_ble_eq_true rfl, Nat.le_of_ble_eq_true rfl⟩) TT_X10_isIn rfl rfl (Nat.le_of_ble_eq_true rfl) dX10_kind_4 ⟨Nat.le_of_ble_eq_true rfl, Nat.le_of_ble_eq_true rfl⟩) hS (fun v_3 H locs w_4 hR hS => ?_)
  rcases w_4 with ⟨rfl, f_5, f_6⟩ | ⟨rfl, f_7⟩
  · skip
    refine bz_eq (tgt := 19) (a := 1) (b := 0) hC.x hC.b rfl rfl dX10_kind_7 (by decide) (fun c_8 => absurd c_8 (by decide)) (fun _ => ?_)
    refine lv_aload_n hC.x hC.b dX10_kind_10 rfl (lv_at hl 0 rfl) ?_
    refine rget hC hK hR (ct_model G _ _) rfl uin_X10 0 (by decide) TF_X10_9 rfl dX10_kind_11 ?_
    refine lv_iload_n hC.x hC.b dX10_kind_14 rfl (lv_at hl 1 rfl) ?_
    refine ald hC hK hR (ct_m_kinds G _ _) rfl (by omega) (by omega) hp_q dX10_kind_15 ?_
    refine lv_goto (tgt := 20) hC.x hC.b dX10_kind_16 (by decide) ?_
    exact reti hC hK hR hS ⟨rfl, (by first | exact Or.inl (⟨by first | rfl | omega, by first | omega | assumption⟩) | exact Or.inr ((⟨by first | rfl | omega, by first | omega | assumption⟩)) | exact False.elim (by omega))⟩ dX10_kind_20
  · skip
    refine bz_eq (tgt := 19) (a := 0) (b := 0) hC.x hC.b rfl rfl dX10_kind_7 (by decide) (fun _ => ?_) (fun c_9 => absurd c_9 (by decide))
    refine lv_iconst (v := (-1)) hC.x hC.b dX10_kind_19 (by decide) ?_
    exact reti hC hK hR hS ⟨rfl, (by first | exact Or.inl (⟨by first | rfl | omega, by first | omega | assumption⟩) | exact Or.inr ((⟨by first | rfl | omega, by first | omega | assumption⟩)) | exact False.elim (by omega))⟩ dX10_kind_20

abbrev po_X10_read (σ : SI) (τ : SL) (pl : Int32) (q : Nat) (xa : Int32) : Int32 → SI × SL → Prop := fun v u => ((v = (-1)) ∧ (u.1 = σ) ∧ (u.2 = τ) ∧ (¬ (0 ≤ pl.toInt ∧ pl.toInt < 24) ∨ (σ 36 q).toInt = -1 ∨ (4 ≤ (σ 36 q).toInt ∧ (σ 36 q).toInt ≤ 6 ∧ ¬ (-10000 ≤ xa.toInt ∧ xa.toInt ≤ 10000)))) ∨ ((v = (-2)) ∧ (u.1 = σ) ∧ (u.2 = τ) ∧ (0 ≤ pl.toInt ∧ pl.toInt < 24) ∧ ((σ 36 q).toInt ≠ -1) ∧ (¬ (4 ≤ (σ 36 q).toInt ∧ (σ 36 q).toInt ≤ 6))) ∨ ((v = (1)) ∧ (u.1 = (up2 (up2 σ 48 (24 * (σ 35 29).toInt.toNat + q) xa) 50 (24 * (σ 35 29).toInt.toNat + q) 1)) ∧ (u.2 = τ) ∧ (0 ≤ pl.toInt ∧ pl.toInt < 24) ∧ (4 ≤ (σ 36 q).toInt ∧ (σ 36 q).toInt ≤ 6) ∧ (-10000 ≤ xa.toInt ∧ xa.toInt ≤ 10000))
set_option maxRecDepth 100000 in
set_option maxHeartbeats 4000000 in
theorem c_X10_read (l : Launch) {G : Gx} {A : Nat → Prop} (hG : GOk G A) (σ : SI) (τ : SL) (pl : Int32) (q : Nat) (hp_q : pl.toInt.toNat = q) (xa : Int32) (hnw : 0 ≤ (σ 35 29).toInt ∧ (σ 35 29).toInt ≤ 200) : MI l G A 2 yX10_read cX10_read 4 (some .int) [.ref (G.2.1 35), .int pl, .int xa] (σ, τ) (po_X10_read σ τ pl q xa) := by
  refine met_of (own := RX10) (by decide +kernel) rfl [(0, .ref (G.2.1 35)), (1, .int pl), (2, .int xa)] rfl (Nat.le_of_ble_eq_true rfl) ?_
  intro p e s m args below meth c ls hC hK hR hl
  have hS : va_S A s.heap s.heap [] := va_S.rf
  refine lv_aload_n hC.x hC.b dX10_read_0 rfl (lv_at hl 0 rfl) ?_
  refine lv_iload_n hC.x hC.b dX10_read_1 rfl (lv_at hl 1 rfl) ?_
  refine lv_iconst (v := 4) hC.x hC.b dX10_read_2 (by decide) ?_
  refine lv_bipush (v := 6) hC.x hC.b dX10_read_3 (by decide) ?_
  have av_1 : (4 : Int32).toInt = 4 := by decide
  have av_2 : (6 : Int32).toInt = 6 := by decide
  refine goip (runV (As := [.int pl, .int (4 : Int32), .int (6 : Int32)]) (rest := []) hC hK hR hl.1 (c_X10_fails l hG σ τ pl q (by first | rfl | (rw [show pl.toInt = pl.toInt from rfl]; done) | (rw [show pl.toInt = pl.toInt from rfl]; exact hp_q)) (4 : Int32) (6 : Int32) ) (call_b hC.ts TC_X10_fails TN_X10 TM_X10_144 hd_X10_fails ⟨Nat.le_of_ble_eq_true rfl, Nat.le_of_ble_eq_true rfl⟩) TI_X10_fails TS_X10_fails (ct_model G _ _) rfl rfl rfl (Nat.le_of_ble_eq_true rfl) dX10_read_5 ⟨Nat.le_of_ble_eq_true rfl, Nat.le_of_ble_eq_true rfl⟩) hS (fun v_3 H locs w_4 hR hS => ?_)
  rcases w_4 with ⟨rfl, f_5⟩ | ⟨rfl, f_6, f_7, f_8⟩ | ⟨rfl, f_9, f_10, f_11⟩
  · skip
    refine lv_istore_n (lv' := [(3, .int (-1 : Int32)), (0, .ref (G.2.1 35)), (1, .int pl), (2, .int xa)]) hC.x hC.b dX10_read_8 rfl hl (by decide) rfl (fun ls hl => ?_)
    refine lv_iload_n hC.x hC.b dX10_read_9 rfl (lv_at hl 0 rfl) ?_
    refine bz_eq (tgt := 15) (a := (-1)) (b := 0) hC.x hC.b rfl rfl dX10_read_10 (by decide) (fun c_12 => absurd c_12 (by decide)) (fun _ => ?_)
    refine lv_iload_n hC.x hC.b dX10_read_13 rfl (lv_at hl 0 rfl) ?_
    exact reti hC hK hR hS (by first | exact Or.inl (⟨by first | rfl | omega, by first | rfl | assumption, by rfl, by first | omega | assumption⟩) | exact False.elim (by omega)) dX10_read_14
  · skip
    refine lv_istore_n (lv' := [(3, .int (0 : Int32)), (0, .ref (G.2.1 35)), (1, .int pl), (2, .int xa)]) hC.x hC.b dX10_read_8 rfl hl (by decide) rfl (fun ls hl => ?_)
    refine lv_iload_n hC.x hC.b dX10_read_9 rfl (lv_at hl 0 rfl) ?_
    refine bz_eq (tgt := 15) (a := 0) (b := 0) hC.x hC.b rfl rfl dX10_read_10 (by decide) (fun _ => ?_) (fun c_13 => absurd c_13 (by decide))
    refine lv_iload_n hC.x hC.b dX10_read_15 rfl (lv_at hl 3 rfl) ?_
    refine lv_sipush (v := (-10000)) hC.x hC.b dX10_read_16 (by decide) ?_
    refine lv_sipush (v := 10000) hC.x hC.b dX10_read_19 (by decide) ?_
    have av_14 : (-10000 : Int32).toInt = -10000 := by decide
    have av_15 : (10000 : Int32).toInt = 10000 := by decide
    refine goip (runS (As := [.int xa, .int (-10000 : Int32), .int (10000 : Int32)]) (rest := []) hC hK hR hl.1 (c_X10_isIn l hG σ τ xa (-10000 : Int32) (10000 : Int32) ) (call_b hC.ts TC_X10_isIn TN_X10 TM_X10_129 hd_X10_isIn ⟨Nat.le_of_ble_eq_true rfl, Nat.le_of_ble_eq_true rfl⟩) TT_X10_isIn rfl rfl (Nat.le_of_ble_eq_true rfl) dX10_read_22 ⟨Nat.le_of_ble_eq_true rfl, Nat.le_of_ble_eq_true rfl⟩) hS (fun v_16 H locs w_17 hR hS => ?_)
    rcases w_17 with ⟨rfl, f_18, f_19⟩ | ⟨rfl, f_20⟩
    · skip
      refine bz_ne (tgt := 30) (a := 1) (b := 0) hC.x hC.b rfl rfl dX10_read_25 (by decide) (fun _ => ?_) (fun c_21 => absurd c_21 (by decide))
      refine lv_aload_n hC.x hC.b dX10_read_30 rfl (lv_at hl 1 rfl) ?_
      refine rget hC hK hR (ct_model G _ _) rfl uin_X10 12 (by decide) TF_X10_47 rfl dX10_read_31 ?_
      refine lv_aload_n hC.x hC.b dX10_read_34 rfl (lv_at hl 1 rfl) ?_
      refine lv_aload_n hC.x hC.b dX10_read_35 rfl (lv_at hl 1 rfl) ?_
      refine rget hC hK hR (ct_model G _ _) rfl uin_X10 29 (by decide) TF_X10_137 rfl dX10_read_36 ?_
      refine lv_iload_n hC.x hC.b dX10_read_39 rfl (lv_at hl 2 rfl) ?_
      refine goip (runV (As := [.int (σ 35 29), .int pl]) (rest := [.ref (G.2.1 48)]) hC hK hR hl.1 (c_X10_at l hG σ τ (σ 35 29) (((σ 35 29).toInt).toNat) (by first | rfl | (rw [show (σ 35 29).toInt = (σ 35 29).toInt from rfl]; done) | (rw [show (σ 35 29).toInt = (σ 35 29).toInt from rfl]; exact rfl)) pl q (by first | rfl | (rw [show pl.toInt = pl.toInt from rfl]; done) | (rw [show pl.toInt = pl.toInt from rfl]; exact hp_q)) (by omega) (by omega)) (call_b hC.ts TC_X10_at TN_X10 TM_X10_140 hd_X10_at ⟨Nat.le_of_ble_eq_true rfl, Nat.le_of_ble_eq_true rfl⟩) TI_X10_at TS_X10_at (ct_model G _ _) rfl rfl rfl (Nat.le_of_ble_eq_true rfl) dX10_read_40 ⟨Nat.le_of_ble_eq_true rfl, Nat.le_of_ble_eq_true rfl⟩) hS (fun v_22 H locs w_23 hR hS => ?_)
      subst w_23
      refine lv_iload_n hC.x hC.b dX10_read_43 rfl (lv_at hl 3 rfl) ?_
      refine ast hC hK hG hR hS (fun _ => ct_m_there G _ _) (nI_T _ (by omega)) (by omega) (by omega) (Int.toNat_natCast _) dX10_read_44 (fun s_24 es_25 H locs hR hS => ?_)
      refine lv_aload_n hC.x hC.b dX10_read_45 rfl (lv_at hl 1 rfl) ?_
      refine rget hC hK hR (ct_model G _ _) rfl uin_X10 14 (by decide) TF_X10_53 rfl dX10_read_46 ?_
      refine lv_aload_n hC.x hC.b dX10_read_49 rfl (lv_at hl 1 rfl) ?_
      refine lv_aload_n hC.x hC.b dX10_read_50 rfl (lv_at hl 1 rfl) ?_
      refine rget hC hK hR (ct_model G _ _) rfl uin_X10 29 (by decide) TF_X10_137 rfl dX10_read_51 ?_
      have rd_26 : (s_24 35 29).toInt = (σ 35 29).toInt := congrArg Int32.toInt (show s_24 35 29 = σ 35 29 from (by rw [es_25]; exact up2_o (by omega)))
      refine lv_iload_n hC.x hC.b dX10_read_54 rfl (lv_at hl 2 rfl) ?_
      refine goip (runV (As := [.int (s_24 35 29), .int pl]) (rest := [.ref (G.2.1 50)]) hC hK hR hl.1 (c_X10_at l hG s_24 τ (s_24 35 29) (((s_24 35 29).toInt).toNat) (by first | rfl | (rw [show (s_24 35 29).toInt = (s_24 35 29).toInt from rfl]; done) | (rw [show (s_24 35 29).toInt = (s_24 35 29).toInt from rfl]; exact rfl)) pl q (by first | rfl | (rw [show pl.toInt = pl.toInt from rfl]; done) | (rw [show pl.toInt = pl.toInt from rfl]; exact hp_q)) (by omega) (by omega)) (call_b hC.ts TC_X10_at TN_X10 TM_X10_140 hd_X10_at ⟨Nat.le_of_ble_eq_true rfl, Nat.le_of_ble_eq_true rfl⟩) TI_X10_at TS_X10_at (ct_model G _ _) rfl rfl rfl (Nat.le_of_ble_eq_true rfl) dX10_read_55 ⟨Nat.le_of_ble_eq_true rfl, Nat.le_of_ble_eq_true rfl⟩) hS (fun v_27 H locs w_28 hR hS => ?_)
      subst w_28
      refine lv_iconst (v := 1) hC.x hC.b dX10_read_58 (by decide) ?_
      refine zast hC hK hG hR hS (fun _ => ct_m_hasThere G _ _) (nI_T _ (by omega)) (by omega) (by omega) (Int.toNat_natCast _) (Or.inr rfl) dX10_read_59 (fun s_29 es_30 H locs hR hS => ?_)
      refine lv_iconst (v := 1) hC.x hC.b dX10_read_60 (by decide) ?_
      exact reti hC hK hR hS (by first | exact Or.inr (Or.inr ((⟨by subst es_30; subst es_25; (first | rfl | omega), by subst es_30; subst es_25; (first | rfl | assumption), by subst es_30; subst es_25; (rfl), by subst es_30; subst es_25; (first | omega | assumption), by subst es_30; subst es_25; (first | omega | assumption), by subst es_30; subst es_25; (first | omega | assumption)⟩))) | exact False.elim (by omega)) dX10_read_61
    · skip
      refine bz_ne (tgt := 30) (a := 0) (b := 0) hC.x hC.b rfl rfl dX10_read_25 (by decide) (fun c_31 => absurd c_31 (by decide)) (fun _ => ?_)
      refine lv_iconst (v := (-1)) hC.x hC.b dX10_read_28 (by decide) ?_
      exact reti hC hK hR hS (by first | exact Or.inl (⟨by first | rfl | omega, by first | rfl | assumption, by rfl, by first | omega | assumption⟩) | exact False.elim (by omega)) dX10_read_29
  · skip
    refine lv_istore_n (lv' := [(3, .int (-2 : Int32)), (0, .ref (G.2.1 35)), (1, .int pl), (2, .int xa)]) hC.x hC.b dX10_read_8 rfl hl (by decide) rfl (fun ls hl => ?_)
    refine lv_iload_n hC.x hC.b dX10_read_9 rfl (lv_at hl 0 rfl) ?_
    refine bz_eq (tgt := 15) (a := (-2)) (b := 0) hC.x hC.b rfl rfl dX10_read_10 (by decide) (fun c_32 => absurd c_32 (by decide)) (fun _ => ?_)
    refine lv_iload_n hC.x hC.b dX10_read_13 rfl (lv_at hl 0 rfl) ?_
    exact reti hC hK hR hS (by first | exact Or.inr (Or.inl (⟨by first | rfl | omega, by first | rfl | assumption, by rfl, by first | omega | assumption, by first | omega | assumption, by first | omega | assumption⟩)) | exact False.elim (by omega)) dX10_read_14

abbrev po_X10_back (σ : SI) (τ : SL) (pl : Int32) (q : Nat) (xa : Int32) : Int32 → SI × SL → Prop := fun v u => ((v = (-1)) ∧ (u.1 = σ) ∧ (u.2 = τ) ∧ (¬ (0 ≤ pl.toInt ∧ pl.toInt < 24) ∨ (σ 36 q).toInt = -1 ∨ ((σ 36 q).toInt = 6 ∧ ¬ (-10000 ≤ xa.toInt ∧ xa.toInt ≤ 10000)))) ∨ ((v = (-2)) ∧ (u.1 = σ) ∧ (u.2 = τ) ∧ (0 ≤ pl.toInt ∧ pl.toInt < 24) ∧ ((σ 36 q).toInt ≠ -1) ∧ (¬ ((σ 36 q).toInt = 6))) ∨ ((v = (1)) ∧ (u.1 = (up2 (up2 σ 49 (24 * (σ 35 29).toInt.toNat + q) xa) 51 (24 * (σ 35 29).toInt.toNat + q) 1)) ∧ (u.2 = τ) ∧ (0 ≤ pl.toInt ∧ pl.toInt < 24) ∧ ((σ 36 q).toInt = 6) ∧ (-10000 ≤ xa.toInt ∧ xa.toInt ≤ 10000))
set_option maxRecDepth 100000 in
set_option maxHeartbeats 4000000 in
theorem c_X10_back (l : Launch) {G : Gx} {A : Nat → Prop} (hG : GOk G A) (σ : SI) (τ : SL) (pl : Int32) (q : Nat) (hp_q : pl.toInt.toNat = q) (xa : Int32) (hnw : 0 ≤ (σ 35 29).toInt ∧ (σ 35 29).toInt ≤ 200) : MI l G A 2 yX10_back cX10_back 4 (some .int) [.ref (G.2.1 35), .int pl, .int xa] (σ, τ) (po_X10_back σ τ pl q xa) := by
  refine met_of (own := RX10) (by decide +kernel) rfl [(0, .ref (G.2.1 35)), (1, .int pl), (2, .int xa)] rfl (Nat.le_of_ble_eq_true rfl) ?_
  intro p e s m args below meth c ls hC hK hR hl
  have hS : va_S A s.heap s.heap [] := va_S.rf
  refine lv_aload_n hC.x hC.b dX10_back_0 rfl (lv_at hl 0 rfl) ?_
  refine lv_iload_n hC.x hC.b dX10_back_1 rfl (lv_at hl 1 rfl) ?_
  refine lv_bipush (v := 6) hC.x hC.b dX10_back_2 (by decide) ?_
  refine lv_bipush (v := 6) hC.x hC.b dX10_back_4 (by decide) ?_
  have av_1 : (6 : Int32).toInt = 6 := by decide
  have av_2 : (6 : Int32).toInt = 6 := by decide
  refine goip (runV (As := [.int pl, .int (6 : Int32), .int (6 : Int32)]) (rest := []) hC hK hR hl.1 (c_X10_fails l hG σ τ pl q (by first | rfl | (rw [show pl.toInt = pl.toInt from rfl]; done) | (rw [show pl.toInt = pl.toInt from rfl]; exact hp_q)) (6 : Int32) (6 : Int32) ) (call_b hC.ts TC_X10_fails TN_X10 TM_X10_144 hd_X10_fails ⟨Nat.le_of_ble_eq_true rfl, Nat.le_of_ble_eq_true rfl⟩) TI_X10_fails TS_X10_fails (ct_model G _ _) rfl rfl rfl (Nat.le_of_ble_eq_true rfl) dX10_back_6 ⟨Nat.le_of_ble_eq_true rfl, Nat.le_of_ble_eq_true rfl⟩) hS (fun v_3 H locs w_4 hR hS => ?_)
  rcases w_4 with ⟨rfl, f_5⟩ | ⟨rfl, f_6, f_7, f_8⟩ | ⟨rfl, f_9, f_10, f_11⟩
  · skip
    refine lv_istore_n (lv' := [(3, .int (-1 : Int32)), (0, .ref (G.2.1 35)), (1, .int pl), (2, .int xa)]) hC.x hC.b dX10_back_9 rfl hl (by decide) rfl (fun ls hl => ?_)
    refine lv_iload_n hC.x hC.b dX10_back_10 rfl (lv_at hl 0 rfl) ?_
    refine bz_eq (tgt := 16) (a := (-1)) (b := 0) hC.x hC.b rfl rfl dX10_back_11 (by decide) (fun c_12 => absurd c_12 (by decide)) (fun _ => ?_)
    refine lv_iload_n hC.x hC.b dX10_back_14 rfl (lv_at hl 0 rfl) ?_
    exact reti hC hK hR hS (by first | exact Or.inl (⟨by first | rfl | omega, by first | rfl | assumption, by rfl, by first | omega | assumption⟩) | exact False.elim (by omega)) dX10_back_15
  · skip
    refine lv_istore_n (lv' := [(3, .int (0 : Int32)), (0, .ref (G.2.1 35)), (1, .int pl), (2, .int xa)]) hC.x hC.b dX10_back_9 rfl hl (by decide) rfl (fun ls hl => ?_)
    refine lv_iload_n hC.x hC.b dX10_back_10 rfl (lv_at hl 0 rfl) ?_
    refine bz_eq (tgt := 16) (a := 0) (b := 0) hC.x hC.b rfl rfl dX10_back_11 (by decide) (fun _ => ?_) (fun c_13 => absurd c_13 (by decide))
    refine lv_iload_n hC.x hC.b dX10_back_16 rfl (lv_at hl 3 rfl) ?_
    refine lv_sipush (v := (-10000)) hC.x hC.b dX10_back_17 (by decide) ?_
    refine lv_sipush (v := 10000) hC.x hC.b dX10_back_20 (by decide) ?_
    have av_14 : (-10000 : Int32).toInt = -10000 := by decide
    have av_15 : (10000 : Int32).toInt = 10000 := by decide
    refine goip (runS (As := [.int xa, .int (-10000 : Int32), .int (10000 : Int32)]) (rest := []) hC hK hR hl.1 (c_X10_isIn l hG σ τ xa (-10000 : Int32) (10000 : Int32) ) (call_b hC.ts TC_X10_isIn TN_X10 TM_X10_129 hd_X10_isIn ⟨Nat.le_of_ble_eq_true rfl, Nat.le_of_ble_eq_true rfl⟩) TT_X10_isIn rfl rfl (Nat.le_of_ble_eq_true rfl) dX10_back_23 ⟨Nat.le_of_ble_eq_true rfl, Nat.le_of_ble_eq_true rfl⟩) hS (fun v_16 H locs w_17 hR hS => ?_)
    rcases w_17 with ⟨rfl, f_18, f_19⟩ | ⟨rfl, f_20⟩
    · skip
      refine bz_ne (tgt := 31) (a := 1) (b := 0) hC.x hC.b rfl rfl dX10_back_26 (by decide) (fun _ => ?_) (fun c_21 => absurd c_21 (by decide))
      refine lv_aload_n hC.x hC.b dX10_back_31 rfl (lv_at hl 1 rfl) ?_
      refine rget hC hK hR (ct_model G _ _) rfl uin_X10 13 (by decide) TF_X10_50 rfl dX10_back_32 ?_
      refine lv_aload_n hC.x hC.b dX10_back_35 rfl (lv_at hl 1 rfl) ?_
      refine lv_aload_n hC.x hC.b dX10_back_36 rfl (lv_at hl 1 rfl) ?_
      refine rget hC hK hR (ct_model G _ _) rfl uin_X10 29 (by decide) TF_X10_137 rfl dX10_back_37 ?_
      refine lv_iload_n hC.x hC.b dX10_back_40 rfl (lv_at hl 2 rfl) ?_
      refine goip (runV (As := [.int (σ 35 29), .int pl]) (rest := [.ref (G.2.1 49)]) hC hK hR hl.1 (c_X10_at l hG σ τ (σ 35 29) (((σ 35 29).toInt).toNat) (by first | rfl | (rw [show (σ 35 29).toInt = (σ 35 29).toInt from rfl]; done) | (rw [show (σ 35 29).toInt = (σ 35 29).toInt from rfl]; exact rfl)) pl q (by first | rfl | (rw [show pl.toInt = pl.toInt from rfl]; done) | (rw [show pl.toInt = pl.toInt from rfl]; exact hp_q)) (by omega) (by omega)) (call_b hC.ts TC_X10_at TN_X10 TM_X10_140 hd_X10_at ⟨Nat.le_of_ble_eq_true rfl, Nat.le_of_ble_eq_true rfl⟩) TI_X10_at TS_X10_at (ct_model G _ _) rfl rfl rfl (Nat.le_of_ble_eq_true rfl) dX10_back_41 ⟨Nat.le_of_ble_eq_true rfl, Nat.le_of_ble_eq_true rfl⟩) hS (fun v_22 H locs w_23 hR hS => ?_)
      subst w_23
      refine lv_iload_n hC.x hC.b dX10_back_44 rfl (lv_at hl 3 rfl) ?_
      refine ast hC hK hG hR hS (fun _ => ct_m_backs G _ _) (nI_T _ (by omega)) (by omega) (by omega) (Int.toNat_natCast _) dX10_back_45 (fun s_24 es_25 H locs hR hS => ?_)
      refine lv_aload_n hC.x hC.b dX10_back_46 rfl (lv_at hl 1 rfl) ?_
      refine rget hC hK hR (ct_model G _ _) rfl uin_X10 15 (by decide) TF_X10_56 rfl dX10_back_47 ?_
      refine lv_aload_n hC.x hC.b dX10_back_50 rfl (lv_at hl 1 rfl) ?_
      refine lv_aload_n hC.x hC.b dX10_back_51 rfl (lv_at hl 1 rfl) ?_
      refine rget hC hK hR (ct_model G _ _) rfl uin_X10 29 (by decide) TF_X10_137 rfl dX10_back_52 ?_
      have rd_26 : (s_24 35 29).toInt = (σ 35 29).toInt := congrArg Int32.toInt (show s_24 35 29 = σ 35 29 from (by rw [es_25]; exact up2_o (by omega)))
      refine lv_iload_n hC.x hC.b dX10_back_55 rfl (lv_at hl 2 rfl) ?_
      refine goip (runV (As := [.int (s_24 35 29), .int pl]) (rest := [.ref (G.2.1 51)]) hC hK hR hl.1 (c_X10_at l hG s_24 τ (s_24 35 29) (((s_24 35 29).toInt).toNat) (by first | rfl | (rw [show (s_24 35 29).toInt = (s_24 35 29).toInt from rfl]; done) | (rw [show (s_24 35 29).toInt = (s_24 35 29).toInt from rfl]; exact rfl)) pl q (by first | rfl | (rw [show pl.toInt = pl.toInt from rfl]; done) | (rw [show pl.toInt = pl.toInt from rfl]; exact hp_q)) (by omega) (by omega)) (call_b hC.ts TC_X10_at TN_X10 TM_X10_140 hd_X10_at ⟨Nat.le_of_ble_eq_true rfl, Nat.le_of_ble_eq_true rfl⟩) TI_X10_at TS_X10_at (ct_model G _ _) rfl rfl rfl (Nat.le_of_ble_eq_true rfl) dX10_back_56 ⟨Nat.le_of_ble_eq_true rfl, Nat.le_of_ble_eq_true rfl⟩) hS (fun v_27 H locs w_28 hR hS => ?_)
      subst w_28
      refine lv_iconst (v := 1) hC.x hC.b dX10_back_59 (by decide) ?_
      refine zast hC hK hG hR hS (fun _ => ct_m_hasBack G _ _) (nI_T _ (by omega)) (by omega) (by omega) (Int.toNat_natCast _) (Or.inr rfl) dX10_back_60 (fun s_29 es_30 H locs hR hS => ?_)
      refine lv_iconst (v := 1) hC.x hC.b dX10_back_61 (by decide) ?_
      exact reti hC hK hR hS (by first | exact Or.inr (Or.inr ((⟨by subst es_30; subst es_25; (first | rfl | omega), by subst es_30; subst es_25; (first | rfl | assumption), by subst es_30; subst es_25; (rfl), by subst es_30; subst es_25; (first | omega | assumption), by subst es_30; subst es_25; (first | omega | assumption), by subst es_30; subst es_25; (first | omega | assumption)⟩))) | exact False.elim (by omega)) dX10_back_62
    · skip
      refine bz_ne (tgt := 31) (a := 0) (b := 0) hC.x hC.b rfl rfl dX10_back_26 (by decide) (fun c_31 => absurd c_31 (by decide)) (fun _ => ?_)
      refine lv_iconst (v := (-1)) hC.x hC.b dX10_back_29 (by decide) ?_
      exact reti hC hK hR hS (by first | exact Or.inl (⟨by first | rfl | omega, by first | rfl | assumption, by rfl, by first | omega | assumption⟩) | exact False.elim (by omega)) dX10_back_30
  · skip
    refine lv_istore_n (lv' := [(3, .int (-2 : Int32)), (0, .ref (G.2.1 35)), (1, .int pl), (2, .int xa)]) hC.x hC.b dX10_back_9 rfl hl (by decide) rfl (fun ls hl => ?_)
    refine lv_iload_n hC.x hC.b dX10_back_10 rfl (lv_at hl 0 rfl) ?_
    refine bz_eq (tgt := 16) (a := (-2)) (b := 0) hC.x hC.b rfl rfl dX10_back_11 (by decide) (fun c_32 => absurd c_32 (by decide)) (fun _ => ?_)
    refine lv_iload_n hC.x hC.b dX10_back_14 rfl (lv_at hl 0 rfl) ?_
    exact reti hC hK hR hS (by first | exact Or.inr (Or.inl (⟨by first | rfl | omega, by first | rfl | assumption, by rfl, by first | omega | assumption, by first | omega | assumption, by first | omega | assumption⟩)) | exact False.elim (by omega)) dX10_back_15

abbrev po_X10_tear (σ : SI) (τ : SL) (pl : Int32) (q : Nat) : Int32 → SI × SL → Prop := fun v u => ((v = (-1)) ∧ (u.1 = σ) ∧ (u.2 = τ) ∧ (¬ (0 ≤ pl.toInt ∧ pl.toInt < 24) ∨ (σ 36 q).toInt = -1)) ∨ ((v = (-2)) ∧ (u.1 = σ) ∧ (u.2 = τ) ∧ (0 ≤ pl.toInt ∧ pl.toInt < 24) ∧ ((σ 36 q).toInt ≠ -1) ∧ (¬ (4 ≤ (σ 36 q).toInt ∧ (σ 36 q).toInt ≤ 6))) ∨ ((v = cntM σ q 201) ∧ (u.2 = τ) ∧ (0 ≤ pl.toInt ∧ pl.toInt < 24) ∧ (4 ≤ (σ 36 q).toInt ∧ (σ 36 q).toInt ≤ 6) ∧ (TornN σ u.1 q 201))
set_option maxRecDepth 100000 in
set_option maxHeartbeats 4000000 in
theorem c_X10_tear (l : Launch) {G : Gx} {A : Nat → Prop} (hG : GOk G A) (σ : SI) (τ : SL) (pl : Int32) (q : Nat) (hp_q : pl.toInt.toNat = q) : MI l G A 2 yX10_tear cX10_tear 5 (some .int) [.ref (G.2.1 35), .int pl] (σ, τ) (po_X10_tear σ τ pl q) := by
  refine met_of (own := RX10) (by decide +kernel) rfl [(0, .ref (G.2.1 35)), (1, .int pl)] rfl (Nat.le_of_ble_eq_true rfl) ?_
  intro p e s m args below meth c ls hC hK hR hl
  have hS : va_S A s.heap s.heap [] := va_S.rf
  refine lv_aload_n hC.x hC.b dX10_tear_0 rfl (lv_at hl 0 rfl) ?_
  refine lv_iload_n hC.x hC.b dX10_tear_1 rfl (lv_at hl 1 rfl) ?_
  refine lv_iconst (v := 4) hC.x hC.b dX10_tear_2 (by decide) ?_
  refine lv_bipush (v := 6) hC.x hC.b dX10_tear_3 (by decide) ?_
  have av_1 : (4 : Int32).toInt = 4 := by decide
  have av_2 : (6 : Int32).toInt = 6 := by decide
  refine goip (runV (As := [.int pl, .int (4 : Int32), .int (6 : Int32)]) (rest := []) hC hK hR hl.1 (c_X10_fails l hG σ τ pl q (by first | rfl | (rw [show pl.toInt = pl.toInt from rfl]; done) | (rw [show pl.toInt = pl.toInt from rfl]; exact hp_q)) (4 : Int32) (6 : Int32) ) (call_b hC.ts TC_X10_fails TN_X10 TM_X10_144 hd_X10_fails ⟨Nat.le_of_ble_eq_true rfl, Nat.le_of_ble_eq_true rfl⟩) TI_X10_fails TS_X10_fails (ct_model G _ _) rfl rfl rfl (Nat.le_of_ble_eq_true rfl) dX10_tear_5 ⟨Nat.le_of_ble_eq_true rfl, Nat.le_of_ble_eq_true rfl⟩) hS (fun v_3 H locs w_4 hR hS => ?_)
  rcases w_4 with ⟨rfl, f_5⟩ | ⟨rfl, f_6, f_7, f_8⟩ | ⟨rfl, f_9, f_10, f_11⟩
  · skip
    refine lv_istore_n (lv' := [(2, .int (-1 : Int32)), (0, .ref (G.2.1 35)), (1, .int pl)]) hC.x hC.b dX10_tear_8 rfl hl (by decide) rfl (fun ls hl => ?_)
    refine lv_iload_n hC.x hC.b dX10_tear_9 rfl (lv_at hl 0 rfl) ?_
    refine bz_eq (tgt := 15) (a := (-1)) (b := 0) hC.x hC.b rfl rfl dX10_tear_10 (by decide) (fun c_12 => absurd c_12 (by decide)) (fun _ => ?_)
    refine lv_iload_n hC.x hC.b dX10_tear_13 rfl (lv_at hl 0 rfl) ?_
    exact reti hC hK hR hS (by first | exact Or.inl (⟨by first | rfl | ((have e9 : n = 201 := by omega); subst e9; assumption), by first | rfl | assumption, by rfl, by first | omega | assumption⟩) | exact Or.inr (Or.inr ((⟨by first | rfl | ((have e9 : n = 201 := by omega); subst e9; assumption), by rfl, by first | omega | assumption, by first | omega | assumption, by (have e9 : n = 201 := by omega); subst e9; assumption⟩))) | exact False.elim (by omega)) dX10_tear_14
  · skip
    refine lv_istore_n (lv' := [(2, .int (0 : Int32)), (0, .ref (G.2.1 35)), (1, .int pl)]) hC.x hC.b dX10_tear_8 rfl hl (by decide) rfl (fun ls hl => ?_)
    refine lv_iload_n hC.x hC.b dX10_tear_9 rfl (lv_at hl 0 rfl) ?_
    refine bz_eq (tgt := 15) (a := 0) (b := 0) hC.x hC.b rfl rfl dX10_tear_10 (by decide) (fun _ => ?_) (fun c_13 => absurd c_13 (by decide))
    refine lv_iconst (v := 0) hC.x hC.b dX10_tear_15 (by decide) ?_
    refine lv_istore_n (lv' := [(3, .int (0 : Int32)), (2, .int (0 : Int32)), (0, .ref (G.2.1 35)), (1, .int pl)]) hC.x hC.b dX10_tear_16 rfl hl (by decide) rfl (fun ls hl => ?_)
    refine lv_iconst (v := 0) hC.x hC.b dX10_tear_17 (by decide) ?_
    refine lv_istore (lv' := [(4, .int (0 : Int32)), (3, .int (0 : Int32)), (2, .int (0 : Int32)), (0, .ref (G.2.1 35)), (1, .int pl)]) hC.x hC.b dX10_tear_18 hl (by decide) rfl (fun ls hl => ?_)
    have L_20 : ∀ (F : Nat) (n : Nat) (s1 : SI) (x3 : Int32), (201 - n) < F → (n ≤ 201) → (TornN σ s1 q n) → (x3 = cntM σ q n) → ∀ (H : Heap) (locs : List Loc) (ls : Array Slot), RepH G s1 τ H → va_S A s.heap H locs → lv_has ls 5 [(0, .ref (G.2.1 35)), (1, .int pl), (3, .int x3), (4, .int (nI n))] → W p l e (rmD 2) s m args below meth c H locs 0 0 (MQ below (va_Qi (po_X10_tear σ τ pl q) (BU G) A) args s 0 0 A) (F0 m 20 ls []) := by
      intro F
      induction F with
      | zero => intro n s1 x3 hm; exact absurd hm (Nat.not_lt_zero _)
      | succ F ih_20 =>
        intro n s1 x3 hm_20 hi0_20 hi1_20 hi2_20 H locs ls hR hS hl
        have hnI := nI_T n (by omega)
        have hz := hi1_20.2.2 (24 * n + q) (fun h hh => by omega)
        refine lv_iload hC.x hC.b dX10_tear_20 (lv_at hl 3 rfl) ?_
        refine lv_sipush (v := 201) hC.x hC.b dX10_tear_22 (by decide) ?_
        refine bi_ge (tgt := 98) (a := (n : Int)) (b := 201) hC.x hC.b (nI_T n (by omega)) rfl dX10_tear_25 (by decide) (fun c_14 => ?_) (fun c_14 => ?_)
        · skip
          refine lv_iload_n hC.x hC.b dX10_tear_98 rfl (lv_at hl 2 rfl) ?_
          exact reti hC hK hR hS (by first | exact Or.inl (⟨by first | rfl | ((have e9 : n = 201 := by omega); subst e9; assumption), by first | rfl | assumption, by rfl, by first | omega | assumption⟩) | exact Or.inr (Or.inl (⟨by first | rfl | ((have e9 : n = 201 := by omega); subst e9; assumption), by first | rfl | assumption, by rfl, by first | omega | assumption, by first | omega | assumption, by first | omega | assumption⟩)) | exact Or.inr (Or.inr ((⟨by first | rfl | ((have e9 : n = 201 := by omega); subst e9; assumption), by rfl, by first | omega | assumption, by first | omega | assumption, by (have e9 : n = 201 := by omega); subst e9; assumption⟩))) | exact False.elim (by omega)) dX10_tear_99
        · skip
          refine lv_iload_n hC.x hC.b dX10_tear_28 rfl (lv_at hl 2 rfl) ?_
          refine lv_aload_n hC.x hC.b dX10_tear_29 rfl (lv_at hl 0 rfl) ?_
          refine rget hC hK hR (ct_model G _ _) rfl uin_X10 14 (by decide) TF_X10_53 rfl dX10_tear_30 ?_
          refine lv_aload_n hC.x hC.b dX10_tear_33 rfl (lv_at hl 0 rfl) ?_
          refine lv_iload hC.x hC.b dX10_tear_34 (lv_at hl 3 rfl) ?_
          refine lv_iload_n hC.x hC.b dX10_tear_36 rfl (lv_at hl 1 rfl) ?_
          have av_15 : (nI n).toInt = (n : Int) := (nI_T n (by omega))
          refine goip (runV (As := [.int (nI n), .int pl]) (rest := [.ref (G.2.1 50), .int x3]) hC hK hR hl.1 (c_X10_at l hG s1 τ (nI n) n (by first | rfl | (rw [show (nI n).toInt = (n : Int) from (nI_T n (by omega))]; done) | (rw [show (nI n).toInt = (n : Int) from (nI_T n (by omega))]; exact (Int.toNat_natCast _))) pl q (by first | rfl | (rw [show pl.toInt = pl.toInt from rfl]; done) | (rw [show pl.toInt = pl.toInt from rfl]; exact hp_q)) (by omega) (by omega)) (call_b hC.ts TC_X10_at TN_X10 TM_X10_140 hd_X10_at ⟨Nat.le_of_ble_eq_true rfl, Nat.le_of_ble_eq_true rfl⟩) TI_X10_at TS_X10_at (ct_model G _ _) rfl rfl rfl (Nat.le_of_ble_eq_true rfl) dX10_tear_37 ⟨Nat.le_of_ble_eq_true rfl, Nat.le_of_ble_eq_true rfl⟩) hS (fun v_16 H locs w_17 hR hS => ?_)
          subst w_17
          refine zald hC hK hR (ct_m_hasThere G _ _) (nI_T _ (by omega)) (by omega) (by omega) (Int.toNat_natCast _) dX10_tear_40 ?_
          refine bz_ne (tgt := 59) (a := (s1 50 (24 * n + q)).toInt) (b := 0) hC.x hC.b rfl rfl dX10_tear_41 (by decide) (fun c_18 => ?_) (fun c_18 => ?_)
          · skip
            refine lv_iconst (v := 1) hC.x hC.b dX10_tear_59 (by decide) ?_
            refine lv_goto (tgt := 64) hC.x hC.b dX10_tear_60 (by decide) ?_
            refine lv_iadd hC.x hC.b dX10_tear_64 ?_
            refine lv_istore_n (lv' := [(3, .int (x3 + (1 : Int32))), (0, .ref (G.2.1 35)), (1, .int pl), (4, .int (nI n))]) hC.x hC.b dX10_tear_65 rfl hl (by decide) rfl (fun ls hl => ?_)
            refine lv_aload_n hC.x hC.b dX10_tear_66 rfl (lv_at hl 1 rfl) ?_
            refine rget hC hK hR (ct_model G _ _) rfl uin_X10 14 (by decide) TF_X10_53 rfl dX10_tear_67 ?_
            refine lv_aload_n hC.x hC.b dX10_tear_70 rfl (lv_at hl 1 rfl) ?_
            refine lv_iload hC.x hC.b dX10_tear_71 (lv_at hl 3 rfl) ?_
            refine lv_iload_n hC.x hC.b dX10_tear_73 rfl (lv_at hl 2 rfl) ?_
            have av_19 : (nI n).toInt = (n : Int) := (nI_T n (by omega))
            refine goip (runV (As := [.int (nI n), .int pl]) (rest := [.ref (G.2.1 50)]) hC hK hR hl.1 (c_X10_at l hG s1 τ (nI n) n (by first | rfl | (rw [show (nI n).toInt = (n : Int) from (nI_T n (by omega))]; done) | (rw [show (nI n).toInt = (n : Int) from (nI_T n (by omega))]; exact (Int.toNat_natCast _))) pl q (by first | rfl | (rw [show pl.toInt = pl.toInt from rfl]; done) | (rw [show pl.toInt = pl.toInt from rfl]; exact hp_q)) (by omega) (by omega)) (call_b hC.ts TC_X10_at TN_X10 TM_X10_140 hd_X10_at ⟨Nat.le_of_ble_eq_true rfl, Nat.le_of_ble_eq_true rfl⟩) TI_X10_at TS_X10_at (ct_model G _ _) rfl rfl rfl (Nat.le_of_ble_eq_true rfl) dX10_tear_74 ⟨Nat.le_of_ble_eq_true rfl, Nat.le_of_ble_eq_true rfl⟩) hS (fun v_20 H locs w_21 hR hS => ?_)
            subst w_21
            refine lv_iconst (v := 0) hC.x hC.b dX10_tear_77 (by decide) ?_
            refine zast hC hK hG hR hS (fun _ => ct_m_hasThere G _ _) (nI_T _ (by omega)) (by omega) (by omega) (Int.toNat_natCast _) (Or.inl rfl) dX10_tear_78 (fun s_22 es_23 H locs hR hS => ?_)
            refine lv_aload_n hC.x hC.b dX10_tear_79 rfl (lv_at hl 1 rfl) ?_
            refine rget hC hK hR (ct_model G _ _) rfl uin_X10 15 (by decide) TF_X10_56 rfl dX10_tear_80 ?_
            refine lv_aload_n hC.x hC.b dX10_tear_83 rfl (lv_at hl 1 rfl) ?_
            refine lv_iload hC.x hC.b dX10_tear_84 (lv_at hl 3 rfl) ?_
            refine lv_iload_n hC.x hC.b dX10_tear_86 rfl (lv_at hl 2 rfl) ?_
            have av_24 : (nI n).toInt = (n : Int) := (nI_T n (by omega))
            refine goip (runV (As := [.int (nI n), .int pl]) (rest := [.ref (G.2.1 51)]) hC hK hR hl.1 (c_X10_at l hG s_22 τ (nI n) n (by first | rfl | (rw [show (nI n).toInt = (n : Int) from (nI_T n (by omega))]; done) | (rw [show (nI n).toInt = (n : Int) from (nI_T n (by omega))]; exact (Int.toNat_natCast _))) pl q (by first | rfl | (rw [show pl.toInt = pl.toInt from rfl]; done) | (rw [show pl.toInt = pl.toInt from rfl]; exact hp_q)) (by omega) (by omega)) (call_b hC.ts TC_X10_at TN_X10 TM_X10_140 hd_X10_at ⟨Nat.le_of_ble_eq_true rfl, Nat.le_of_ble_eq_true rfl⟩) TI_X10_at TS_X10_at (ct_model G _ _) rfl rfl rfl (Nat.le_of_ble_eq_true rfl) dX10_tear_87 ⟨Nat.le_of_ble_eq_true rfl, Nat.le_of_ble_eq_true rfl⟩) hS (fun v_25 H locs w_26 hR hS => ?_)
            subst w_26
            refine lv_iconst (v := 0) hC.x hC.b dX10_tear_90 (by decide) ?_
            refine zast hC hK hG hR hS (fun _ => ct_m_hasBack G _ _) (nI_T _ (by omega)) (by omega) (by omega) (Int.toNat_natCast _) (Or.inl rfl) dX10_tear_91 (fun s_27 es_28 H locs hR hS => ?_)
            refine lv_iinc (v := nI (n + 1)) (lv' := [(4, .int (nI (n + 1))), (3, .int (x3 + (1 : Int32))), (0, .ref (G.2.1 35)), (1, .int pl)]) hC.x hC.b dX10_tear_92 hl (k := 3) rfl (nI_succ _).symm (by decide) rfl (fun ls hl => ?_)
            refine lv_goto (tgt := 20) hC.x hC.b dX10_tear_95 (by decide) ?_
            exact ih_20 (n + 1) s_27 (x3 + (1 : Int32)) (by omega) (by first | omega | assumption) (by subst es_28; subst es_23; exact TornN.st (by assumption)) (by show _ = if _ then _ else _; rw [← hz.1, ← hz.2]; first | (rw [if_pos (by omega), ← hi2_20]; first | assumption | (symm; assumption) | rfl | simp_all) | (rw [if_neg (by omega), ← hi2_20])) _ _ _ hR hS (lv_sub hl [2, 3, 1, 0] rfl)
          · skip
            refine lv_aload_n hC.x hC.b dX10_tear_44 rfl (lv_at hl 0 rfl) ?_
            refine rget hC hK hR (ct_model G _ _) rfl uin_X10 15 (by decide) TF_X10_56 rfl dX10_tear_45 ?_
            refine lv_aload_n hC.x hC.b dX10_tear_48 rfl (lv_at hl 0 rfl) ?_
            refine lv_iload hC.x hC.b dX10_tear_49 (lv_at hl 3 rfl) ?_
            refine lv_iload_n hC.x hC.b dX10_tear_51 rfl (lv_at hl 1 rfl) ?_
            have av_29 : (nI n).toInt = (n : Int) := (nI_T n (by omega))
            refine goip (runV (As := [.int (nI n), .int pl]) (rest := [.ref (G.2.1 51), .int x3]) hC hK hR hl.1 (c_X10_at l hG s1 τ (nI n) n (by first | rfl | (rw [show (nI n).toInt = (n : Int) from (nI_T n (by omega))]; done) | (rw [show (nI n).toInt = (n : Int) from (nI_T n (by omega))]; exact (Int.toNat_natCast _))) pl q (by first | rfl | (rw [show pl.toInt = pl.toInt from rfl]; done) | (rw [show pl.toInt = pl.toInt from rfl]; exact hp_q)) (by omega) (by omega)) (call_b hC.ts TC_X10_at TN_X10 TM_X10_140 hd_X10_at ⟨Nat.le_of_ble_eq_true rfl, Nat.le_of_ble_eq_true rfl⟩) TI_X10_at TS_X10_at (ct_model G _ _) rfl rfl rfl (Nat.le_of_ble_eq_true rfl) dX10_tear_52 ⟨Nat.le_of_ble_eq_true rfl, Nat.le_of_ble_eq_true rfl⟩) hS (fun v_30 H locs w_31 hR hS => ?_)
            subst w_31
            refine zald hC hK hR (ct_m_hasBack G _ _) (nI_T _ (by omega)) (by omega) (by omega) (Int.toNat_natCast _) dX10_tear_55 ?_
            refine bz_eq (tgt := 63) (a := (s1 51 (24 * n + q)).toInt) (b := 0) hC.x hC.b rfl rfl dX10_tear_56 (by decide) (fun c_32 => ?_) (fun c_32 => ?_)
            · skip
              refine lv_iconst (v := 0) hC.x hC.b dX10_tear_63 (by decide) ?_
              refine lv_iadd hC.x hC.b dX10_tear_64 ?_
              refine lv_istore_n (lv' := [(3, .int (x3 + (0 : Int32))), (0, .ref (G.2.1 35)), (1, .int pl), (4, .int (nI n))]) hC.x hC.b dX10_tear_65 rfl hl (by decide) rfl (fun ls hl => ?_)
              refine lv_aload_n hC.x hC.b dX10_tear_66 rfl (lv_at hl 1 rfl) ?_
              refine rget hC hK hR (ct_model G _ _) rfl uin_X10 14 (by decide) TF_X10_53 rfl dX10_tear_67 ?_
              refine lv_aload_n hC.x hC.b dX10_tear_70 rfl (lv_at hl 1 rfl) ?_
              refine lv_iload hC.x hC.b dX10_tear_71 (lv_at hl 3 rfl) ?_
              refine lv_iload_n hC.x hC.b dX10_tear_73 rfl (lv_at hl 2 rfl) ?_
              have av_33 : (nI n).toInt = (n : Int) := (nI_T n (by omega))
              refine goip (runV (As := [.int (nI n), .int pl]) (rest := [.ref (G.2.1 50)]) hC hK hR hl.1 (c_X10_at l hG s1 τ (nI n) n (by first | rfl | (rw [show (nI n).toInt = (n : Int) from (nI_T n (by omega))]; done) | (rw [show (nI n).toInt = (n : Int) from (nI_T n (by omega))]; exact (Int.toNat_natCast _))) pl q (by first | rfl | (rw [show pl.toInt = pl.toInt from rfl]; done) | (rw [show pl.toInt = pl.toInt from rfl]; exact hp_q)) (by omega) (by omega)) (call_b hC.ts TC_X10_at TN_X10 TM_X10_140 hd_X10_at ⟨Nat.le_of_ble_eq_true rfl, Nat.le_of_ble_eq_true rfl⟩) TI_X10_at TS_X10_at (ct_model G _ _) rfl rfl rfl (Nat.le_of_ble_eq_true rfl) dX10_tear_74 ⟨Nat.le_of_ble_eq_true rfl, Nat.le_of_ble_eq_true rfl⟩) hS (fun v_34 H locs w_35 hR hS => ?_)
              subst w_35
              refine lv_iconst (v := 0) hC.x hC.b dX10_tear_77 (by decide) ?_
              refine zast hC hK hG hR hS (fun _ => ct_m_hasThere G _ _) (nI_T _ (by omega)) (by omega) (by omega) (Int.toNat_natCast _) (Or.inl rfl) dX10_tear_78 (fun s_36 es_37 H locs hR hS => ?_)
              refine lv_aload_n hC.x hC.b dX10_tear_79 rfl (lv_at hl 1 rfl) ?_
              refine rget hC hK hR (ct_model G _ _) rfl uin_X10 15 (by decide) TF_X10_56 rfl dX10_tear_80 ?_
              refine lv_aload_n hC.x hC.b dX10_tear_83 rfl (lv_at hl 1 rfl) ?_
              refine lv_iload hC.x hC.b dX10_tear_84 (lv_at hl 3 rfl) ?_
              refine lv_iload_n hC.x hC.b dX10_tear_86 rfl (lv_at hl 2 rfl) ?_
              have av_38 : (nI n).toInt = (n : Int) := (nI_T n (by omega))
              refine goip (runV (As := [.int (nI n), .int pl]) (rest := [.ref (G.2.1 51)]) hC hK hR hl.1 (c_X10_at l hG s_36 τ (nI n) n (by first | rfl | (rw [show (nI n).toInt = (n : Int) from (nI_T n (by omega))]; done) | (rw [show (nI n).toInt = (n : Int) from (nI_T n (by omega))]; exact (Int.toNat_natCast _))) pl q (by first | rfl | (rw [show pl.toInt = pl.toInt from rfl]; done) | (rw [show pl.toInt = pl.toInt from rfl]; exact hp_q)) (by omega) (by omega)) (call_b hC.ts TC_X10_at TN_X10 TM_X10_140 hd_X10_at ⟨Nat.le_of_ble_eq_true rfl, Nat.le_of_ble_eq_true rfl⟩) TI_X10_at TS_X10_at (ct_model G _ _) rfl rfl rfl (Nat.le_of_ble_eq_true rfl) dX10_tear_87 ⟨Nat.le_of_ble_eq_true rfl, Nat.le_of_ble_eq_true rfl⟩) hS (fun v_39 H locs w_40 hR hS => ?_)
              subst w_40
              refine lv_iconst (v := 0) hC.x hC.b dX10_tear_90 (by decide) ?_
              refine zast hC hK hG hR hS (fun _ => ct_m_hasBack G _ _) (nI_T _ (by omega)) (by omega) (by omega) (Int.toNat_natCast _) (Or.inl rfl) dX10_tear_91 (fun s_41 es_42 H locs hR hS => ?_)
              refine lv_iinc (v := nI (n + 1)) (lv' := [(4, .int (nI (n + 1))), (3, .int (x3 + (0 : Int32))), (0, .ref (G.2.1 35)), (1, .int pl)]) hC.x hC.b dX10_tear_92 hl (k := 3) rfl (nI_succ _).symm (by decide) rfl (fun ls hl => ?_)
              refine lv_goto (tgt := 20) hC.x hC.b dX10_tear_95 (by decide) ?_
              exact ih_20 (n + 1) s_41 (x3 + (0 : Int32)) (by omega) (by first | omega | assumption) (by subst es_42; subst es_37; exact TornN.st (by assumption)) (by show _ = if _ then _ else _; rw [← hz.1, ← hz.2]; first | (rw [if_pos (by omega), ← hi2_20]; first | assumption | (symm; assumption) | rfl | simp_all) | (rw [if_neg (by omega), ← hi2_20])) _ _ _ hR hS (lv_sub hl [2, 3, 1, 0] rfl)
            · skip
              refine lv_iconst (v := 1) hC.x hC.b dX10_tear_59 (by decide) ?_
              refine lv_goto (tgt := 64) hC.x hC.b dX10_tear_60 (by decide) ?_
              refine lv_iadd hC.x hC.b dX10_tear_64 ?_
              refine lv_istore_n (lv' := [(3, .int (x3 + (1 : Int32))), (0, .ref (G.2.1 35)), (1, .int pl), (4, .int (nI n))]) hC.x hC.b dX10_tear_65 rfl hl (by decide) rfl (fun ls hl => ?_)
              refine lv_aload_n hC.x hC.b dX10_tear_66 rfl (lv_at hl 1 rfl) ?_
              refine rget hC hK hR (ct_model G _ _) rfl uin_X10 14 (by decide) TF_X10_53 rfl dX10_tear_67 ?_
              refine lv_aload_n hC.x hC.b dX10_tear_70 rfl (lv_at hl 1 rfl) ?_
              refine lv_iload hC.x hC.b dX10_tear_71 (lv_at hl 3 rfl) ?_
              refine lv_iload_n hC.x hC.b dX10_tear_73 rfl (lv_at hl 2 rfl) ?_
              have av_43 : (nI n).toInt = (n : Int) := (nI_T n (by omega))
              refine goip (runV (As := [.int (nI n), .int pl]) (rest := [.ref (G.2.1 50)]) hC hK hR hl.1 (c_X10_at l hG s1 τ (nI n) n (by first | rfl | (rw [show (nI n).toInt = (n : Int) from (nI_T n (by omega))]; done) | (rw [show (nI n).toInt = (n : Int) from (nI_T n (by omega))]; exact (Int.toNat_natCast _))) pl q (by first | rfl | (rw [show pl.toInt = pl.toInt from rfl]; done) | (rw [show pl.toInt = pl.toInt from rfl]; exact hp_q)) (by omega) (by omega)) (call_b hC.ts TC_X10_at TN_X10 TM_X10_140 hd_X10_at ⟨Nat.le_of_ble_eq_true rfl, Nat.le_of_ble_eq_true rfl⟩) TI_X10_at TS_X10_at (ct_model G _ _) rfl rfl rfl (Nat.le_of_ble_eq_true rfl) dX10_tear_74 ⟨Nat.le_of_ble_eq_true rfl, Nat.le_of_ble_eq_true rfl⟩) hS (fun v_44 H locs w_45 hR hS => ?_)
              subst w_45
              refine lv_iconst (v := 0) hC.x hC.b dX10_tear_77 (by decide) ?_
              refine zast hC hK hG hR hS (fun _ => ct_m_hasThere G _ _) (nI_T _ (by omega)) (by omega) (by omega) (Int.toNat_natCast _) (Or.inl rfl) dX10_tear_78 (fun s_46 es_47 H locs hR hS => ?_)
              refine lv_aload_n hC.x hC.b dX10_tear_79 rfl (lv_at hl 1 rfl) ?_
              refine rget hC hK hR (ct_model G _ _) rfl uin_X10 15 (by decide) TF_X10_56 rfl dX10_tear_80 ?_
              refine lv_aload_n hC.x hC.b dX10_tear_83 rfl (lv_at hl 1 rfl) ?_
              refine lv_iload hC.x hC.b dX10_tear_84 (lv_at hl 3 rfl) ?_
              refine lv_iload_n hC.x hC.b dX10_tear_86 rfl (lv_at hl 2 rfl) ?_
              have av_48 : (nI n).toInt = (n : Int) := (nI_T n (by omega))
              refine goip (runV (As := [.int (nI n), .int pl]) (rest := [.ref (G.2.1 51)]) hC hK hR hl.1 (c_X10_at l hG s_46 τ (nI n) n (by first | rfl | (rw [show (nI n).toInt = (n : Int) from (nI_T n (by omega))]; done) | (rw [show (nI n).toInt = (n : Int) from (nI_T n (by omega))]; exact (Int.toNat_natCast _))) pl q (by first | rfl | (rw [show pl.toInt = pl.toInt from rfl]; done) | (rw [show pl.toInt = pl.toInt from rfl]; exact hp_q)) (by omega) (by omega)) (call_b hC.ts TC_X10_at TN_X10 TM_X10_140 hd_X10_at ⟨Nat.le_of_ble_eq_true rfl, Nat.le_of_ble_eq_true rfl⟩) TI_X10_at TS_X10_at (ct_model G _ _) rfl rfl rfl (Nat.le_of_ble_eq_true rfl) dX10_tear_87 ⟨Nat.le_of_ble_eq_true rfl, Nat.le_of_ble_eq_true rfl⟩) hS (fun v_49 H locs w_50 hR hS => ?_)
              subst w_50
              refine lv_iconst (v := 0) hC.x hC.b dX10_tear_90 (by decide) ?_
              refine zast hC hK hG hR hS (fun _ => ct_m_hasBack G _ _) (nI_T _ (by omega)) (by omega) (by omega) (Int.toNat_natCast _) (Or.inl rfl) dX10_tear_91 (fun s_51 es_52 H locs hR hS => ?_)
              refine lv_iinc (v := nI (n + 1)) (lv' := [(4, .int (nI (n + 1))), (3, .int (x3 + (1 : Int32))), (0, .ref (G.2.1 35)), (1, .int pl)]) hC.x hC.b dX10_tear_92 hl (k := 3) rfl (nI_succ _).symm (by decide) rfl (fun ls hl => ?_)
              refine lv_goto (tgt := 20) hC.x hC.b dX10_tear_95 (by decide) ?_
              exact ih_20 (n + 1) s_51 (x3 + (1 : Int32)) (by omega) (by first | omega | assumption) (by subst es_52; subst es_47; exact TornN.st (by assumption)) (by show _ = if _ then _ else _; rw [← hz.1, ← hz.2]; first | (rw [if_pos (by omega), ← hi2_20]; first | assumption | (symm; assumption) | rfl | simp_all) | (rw [if_neg (by omega), ← hi2_20])) _ _ _ hR hS (lv_sub hl [2, 3, 1, 0] rfl)
    exact L_20 _ 0 σ (0 : Int32) (Nat.lt_succ_self _) (by first | omega | assumption) (by skip; exact TornN.rf) (by rfl) _ _ _ hR hS (lv_sub hl [3, 4, 1, 0] rfl)
  · skip
    refine lv_istore_n (lv' := [(2, .int (-2 : Int32)), (0, .ref (G.2.1 35)), (1, .int pl)]) hC.x hC.b dX10_tear_8 rfl hl (by decide) rfl (fun ls hl => ?_)
    refine lv_iload_n hC.x hC.b dX10_tear_9 rfl (lv_at hl 0 rfl) ?_
    refine bz_eq (tgt := 15) (a := (-2)) (b := 0) hC.x hC.b rfl rfl dX10_tear_10 (by decide) (fun c_53 => absurd c_53 (by decide)) (fun _ => ?_)
    refine lv_iload_n hC.x hC.b dX10_tear_13 rfl (lv_at hl 0 rfl) ?_
    exact reti hC hK hR hS (by first | exact Or.inr (Or.inl (⟨by first | rfl | ((have e9 : n = 201 := by omega); subst e9; assumption), by first | rfl | assumption, by rfl, by first | omega | assumption, by first | omega | assumption, by first | omega | assumption⟩)) | exact Or.inr (Or.inr ((⟨by first | rfl | ((have e9 : n = 201 := by omega); subst e9; assumption), by rfl, by first | omega | assumption, by first | omega | assumption, by (have e9 : n = 201 := by omega); subst e9; assumption⟩))) | exact False.elim (by omega)) dX10_tear_14

abbrev po_X10_way (σ : SI) (τ : SL) (pl : Int32) (q : Nat) (xa : Int32) : Int32 → SI × SL → Prop := fun v u => ((v = (-1)) ∧ (u.1 = σ) ∧ (u.2 = τ) ∧ (¬ (0 ≤ pl.toInt ∧ pl.toInt < 24) ∨ (σ 36 q).toInt = -1 ∨ ((σ 36 q).toInt = 5 ∧ ¬ (-10000 ≤ xa.toInt ∧ xa.toInt ≤ 10000)))) ∨ ((v = (-2)) ∧ (u.1 = σ) ∧ (u.2 = τ) ∧ (0 ≤ pl.toInt ∧ pl.toInt < 24) ∧ ((σ 36 q).toInt ≠ -1) ∧ (¬ ((σ 36 q).toInt = 5))) ∨ ((v = (1)) ∧ (u.1 = up2 σ 47 q xa) ∧ (u.2 = τ) ∧ (0 ≤ pl.toInt ∧ pl.toInt < 24) ∧ ((σ 36 q).toInt = 5) ∧ (-10000 ≤ xa.toInt ∧ xa.toInt ≤ 10000))
set_option maxRecDepth 100000 in
set_option maxHeartbeats 4000000 in
theorem c_X10_way (l : Launch) {G : Gx} {A : Nat → Prop} (hG : GOk G A) (σ : SI) (τ : SL) (pl : Int32) (q : Nat) (hp_q : pl.toInt.toNat = q) (xa : Int32) : MI l G A 2 yX10_way cX10_way 4 (some .int) [.ref (G.2.1 35), .int pl, .int xa] (σ, τ) (po_X10_way σ τ pl q xa) := by
  refine met_of (own := RX10) (by decide +kernel) rfl [(0, .ref (G.2.1 35)), (1, .int pl), (2, .int xa)] rfl (Nat.le_of_ble_eq_true rfl) ?_
  intro p e s m args below meth c ls hC hK hR hl
  have hS : va_S A s.heap s.heap [] := va_S.rf
  refine lv_aload_n hC.x hC.b dX10_way_0 rfl (lv_at hl 0 rfl) ?_
  refine lv_iload_n hC.x hC.b dX10_way_1 rfl (lv_at hl 1 rfl) ?_
  refine lv_iconst (v := 5) hC.x hC.b dX10_way_2 (by decide) ?_
  refine lv_iconst (v := 5) hC.x hC.b dX10_way_3 (by decide) ?_
  have av_1 : (5 : Int32).toInt = 5 := by decide
  have av_2 : (5 : Int32).toInt = 5 := by decide
  refine goip (runV (As := [.int pl, .int (5 : Int32), .int (5 : Int32)]) (rest := []) hC hK hR hl.1 (c_X10_fails l hG σ τ pl q (by first | rfl | (rw [show pl.toInt = pl.toInt from rfl]; done) | (rw [show pl.toInt = pl.toInt from rfl]; exact hp_q)) (5 : Int32) (5 : Int32) ) (call_b hC.ts TC_X10_fails TN_X10 TM_X10_144 hd_X10_fails ⟨Nat.le_of_ble_eq_true rfl, Nat.le_of_ble_eq_true rfl⟩) TI_X10_fails TS_X10_fails (ct_model G _ _) rfl rfl rfl (Nat.le_of_ble_eq_true rfl) dX10_way_4 ⟨Nat.le_of_ble_eq_true rfl, Nat.le_of_ble_eq_true rfl⟩) hS (fun v_3 H locs w_4 hR hS => ?_)
  rcases w_4 with ⟨rfl, f_5⟩ | ⟨rfl, f_6, f_7, f_8⟩ | ⟨rfl, f_9, f_10, f_11⟩
  · skip
    refine lv_istore_n (lv' := [(3, .int (-1 : Int32)), (0, .ref (G.2.1 35)), (1, .int pl), (2, .int xa)]) hC.x hC.b dX10_way_7 rfl hl (by decide) rfl (fun ls hl => ?_)
    refine lv_iload_n hC.x hC.b dX10_way_8 rfl (lv_at hl 0 rfl) ?_
    refine bz_eq (tgt := 14) (a := (-1)) (b := 0) hC.x hC.b rfl rfl dX10_way_9 (by decide) (fun c_12 => absurd c_12 (by decide)) (fun _ => ?_)
    refine lv_iload_n hC.x hC.b dX10_way_12 rfl (lv_at hl 0 rfl) ?_
    exact reti hC hK hR hS (by first | exact Or.inl (⟨by first | rfl | omega, by first | rfl | assumption, by rfl, by first | omega | assumption⟩) | exact False.elim (by omega)) dX10_way_13
  · skip
    refine lv_istore_n (lv' := [(3, .int (0 : Int32)), (0, .ref (G.2.1 35)), (1, .int pl), (2, .int xa)]) hC.x hC.b dX10_way_7 rfl hl (by decide) rfl (fun ls hl => ?_)
    refine lv_iload_n hC.x hC.b dX10_way_8 rfl (lv_at hl 0 rfl) ?_
    refine bz_eq (tgt := 14) (a := 0) (b := 0) hC.x hC.b rfl rfl dX10_way_9 (by decide) (fun _ => ?_) (fun c_13 => absurd c_13 (by decide))
    refine lv_iload_n hC.x hC.b dX10_way_14 rfl (lv_at hl 3 rfl) ?_
    refine lv_sipush (v := (-10000)) hC.x hC.b dX10_way_15 (by decide) ?_
    refine lv_sipush (v := 10000) hC.x hC.b dX10_way_18 (by decide) ?_
    have av_14 : (-10000 : Int32).toInt = -10000 := by decide
    have av_15 : (10000 : Int32).toInt = 10000 := by decide
    refine goip (runS (As := [.int xa, .int (-10000 : Int32), .int (10000 : Int32)]) (rest := []) hC hK hR hl.1 (c_X10_isIn l hG σ τ xa (-10000 : Int32) (10000 : Int32) ) (call_b hC.ts TC_X10_isIn TN_X10 TM_X10_129 hd_X10_isIn ⟨Nat.le_of_ble_eq_true rfl, Nat.le_of_ble_eq_true rfl⟩) TT_X10_isIn rfl rfl (Nat.le_of_ble_eq_true rfl) dX10_way_21 ⟨Nat.le_of_ble_eq_true rfl, Nat.le_of_ble_eq_true rfl⟩) hS (fun v_16 H locs w_17 hR hS => ?_)
    rcases w_17 with ⟨rfl, f_18, f_19⟩ | ⟨rfl, f_20⟩
    · skip
      refine bz_ne (tgt := 29) (a := 1) (b := 0) hC.x hC.b rfl rfl dX10_way_24 (by decide) (fun _ => ?_) (fun c_21 => absurd c_21 (by decide))
      refine lv_aload_n hC.x hC.b dX10_way_29 rfl (lv_at hl 1 rfl) ?_
      refine rget hC hK hR (ct_model G _ _) rfl uin_X10 11 (by decide) TF_X10_44 rfl dX10_way_30 ?_
      refine lv_iload_n hC.x hC.b dX10_way_33 rfl (lv_at hl 2 rfl) ?_
      refine lv_iload_n hC.x hC.b dX10_way_34 rfl (lv_at hl 3 rfl) ?_
      refine ast hC hK hG hR hS (fun _ => ct_m_ways G _ _) rfl (by omega) (by omega) hp_q dX10_way_35 (fun s_22 es_23 H locs hR hS => ?_)
      refine lv_iconst (v := 1) hC.x hC.b dX10_way_36 (by decide) ?_
      exact reti hC hK hR hS (by first | exact Or.inr (Or.inr ((⟨by subst es_23; (first | rfl | omega), by subst es_23; (first | rfl | assumption), by subst es_23; (rfl), by subst es_23; (first | omega | assumption), by subst es_23; (first | omega | assumption), by subst es_23; (first | omega | assumption)⟩))) | exact False.elim (by omega)) dX10_way_37
    · skip
      refine bz_ne (tgt := 29) (a := 0) (b := 0) hC.x hC.b rfl rfl dX10_way_24 (by decide) (fun c_24 => absurd c_24 (by decide)) (fun _ => ?_)
      refine lv_iconst (v := (-1)) hC.x hC.b dX10_way_27 (by decide) ?_
      exact reti hC hK hR hS (by first | exact Or.inl (⟨by first | rfl | omega, by first | rfl | assumption, by rfl, by first | omega | assumption⟩) | exact False.elim (by omega)) dX10_way_28
  · skip
    refine lv_istore_n (lv' := [(3, .int (-2 : Int32)), (0, .ref (G.2.1 35)), (1, .int pl), (2, .int xa)]) hC.x hC.b dX10_way_7 rfl hl (by decide) rfl (fun ls hl => ?_)
    refine lv_iload_n hC.x hC.b dX10_way_8 rfl (lv_at hl 0 rfl) ?_
    refine bz_eq (tgt := 14) (a := (-2)) (b := 0) hC.x hC.b rfl rfl dX10_way_9 (by decide) (fun c_25 => absurd c_25 (by decide)) (fun _ => ?_)
    refine lv_iload_n hC.x hC.b dX10_way_12 rfl (lv_at hl 0 rfl) ?_
    exact reti hC hK hR hS (by first | exact Or.inr (Or.inl (⟨by first | rfl | omega, by first | rfl | assumption, by rfl, by first | omega | assumption, by first | omega | assumption, by first | omega | assumption⟩)) | exact False.elim (by omega)) dX10_way_13

abbrev po_X10_told (σ : SI) (τ : SL) (pl : Int32) (q : Nat) (hr : Int32) (hq : Nat) : Int32 → SI × SL → Prop := fun v u => u = (σ, τ) ∧ (((v = (toldM σ q hr hq))))
set_option maxRecDepth 100000 in
set_option maxHeartbeats 4000000 in
theorem c_X10_told (l : Launch) {G : Gx} {A : Nat → Prop} (hG : GOk G A) (σ : SI) (τ : SL) (pl : Int32) (q : Nat) (hp_q : pl.toInt.toNat = q) (hr : Int32) (hq : Nat) (hp_hq : hr.toInt.toNat = hq) (hnw : 0 ≤ (σ 35 29).toInt ∧ (σ 35 29).toInt ≤ 200) (hin : 0 ≤ pl.toInt ∧ pl.toInt < 24) : MI l G A 1 yX10_told cX10_told 4 (some .int) [.ref (G.2.1 35), .int pl, .int hr] (σ, τ) (po_X10_told σ τ pl q hr hq) := by
  refine met_of (own := RX10) (by decide +kernel) rfl [(0, .ref (G.2.1 35)), (1, .int pl), (2, .int hr)] rfl (Nat.le_of_ble_eq_true rfl) ?_
  intro p e s m args below meth c ls hC hK hR hl
  have hS : va_S A s.heap s.heap [] := va_S.rf
  refine lv_iload_n hC.x hC.b dX10_told_0 rfl (lv_at hl 2 rfl) ?_
  refine lv_iconst (v := 0) hC.x hC.b dX10_told_1 (by decide) ?_
  refine lv_aload_n hC.x hC.b dX10_told_2 rfl (lv_at hl 0 rfl) ?_
  refine rget hC hK hR (ct_model G _ _) rfl uin_X10 29 (by decide) TF_X10_137 rfl dX10_told_3 ?_
  have av_1 : (0 : Int32).toInt = 0 := by decide
  refine goip (runS (As := [.int hr, .int (0 : Int32), .int (σ 35 29)]) (rest := []) hC hK hR hl.1 (c_X10_isIn l hG σ τ hr (0 : Int32) (σ 35 29) ) (call_b hC.ts TC_X10_isIn TN_X10 TM_X10_129 hd_X10_isIn ⟨Nat.le_of_ble_eq_true rfl, Nat.le_of_ble_eq_true rfl⟩) TT_X10_isIn rfl rfl (Nat.le_of_ble_eq_true rfl) dX10_told_6 ⟨Nat.le_of_ble_eq_true rfl, Nat.le_of_ble_eq_true rfl⟩) hS (fun v_2 H locs w_3 hR hS => ?_)
  rcases w_3 with ⟨rfl, f_4, f_5⟩ | ⟨rfl, f_6⟩
  · skip
    refine bz_eq (tgt := 26) (a := 1) (b := 0) hC.x hC.b rfl rfl dX10_told_9 (by decide) (fun c_7 => absurd c_7 (by decide)) (fun _ => ?_)
    refine lv_aload_n hC.x hC.b dX10_told_12 rfl (lv_at hl 0 rfl) ?_
    refine rget hC hK hR (ct_model G _ _) rfl uin_X10 14 (by decide) TF_X10_53 rfl dX10_told_13 ?_
    refine lv_aload_n hC.x hC.b dX10_told_16 rfl (lv_at hl 0 rfl) ?_
    refine lv_iload_n hC.x hC.b dX10_told_17 rfl (lv_at hl 2 rfl) ?_
    refine lv_iload_n hC.x hC.b dX10_told_18 rfl (lv_at hl 1 rfl) ?_
    refine goip (runV (As := [.int hr, .int pl]) (rest := [.ref (G.2.1 50)]) hC hK hR hl.1 (c_X10_at l hG σ τ hr hq (by first | rfl | (rw [show hr.toInt = hr.toInt from rfl]; done) | (rw [show hr.toInt = hr.toInt from rfl]; exact hp_hq)) pl q (by first | rfl | (rw [show pl.toInt = pl.toInt from rfl]; done) | (rw [show pl.toInt = pl.toInt from rfl]; exact hp_q)) (by omega) (by omega)) (call_b hC.ts TC_X10_at TN_X10 TM_X10_140 hd_X10_at ⟨Nat.le_of_ble_eq_true rfl, Nat.le_of_ble_eq_true rfl⟩) TI_X10_at TS_X10_at (ct_model G _ _) rfl rfl rfl (Nat.le_of_ble_eq_true rfl) dX10_told_19 ⟨Nat.le_of_ble_eq_true rfl, Nat.le_of_ble_eq_true rfl⟩) hS (fun v_8 H locs w_9 hR hS => ?_)
    subst w_9
    refine zald hC hK hR (ct_m_hasThere G _ _) (nI_T _ (by omega)) (by omega) (by omega) (Int.toNat_natCast _) dX10_told_22 ?_
    refine bz_ne (tgt := 29) (a := (σ 50 (24 * hq + q)).toInt) (b := 0) hC.x hC.b rfl rfl dX10_told_23 (by decide) (fun c_10 => ?_) (fun c_10 => ?_)
    · skip
      refine lv_aload_n hC.x hC.b dX10_told_29 rfl (lv_at hl 0 rfl) ?_
      refine rget hC hK hR (ct_model G _ _) rfl uin_X10 12 (by decide) TF_X10_47 rfl dX10_told_30 ?_
      refine lv_aload_n hC.x hC.b dX10_told_33 rfl (lv_at hl 0 rfl) ?_
      refine lv_iload_n hC.x hC.b dX10_told_34 rfl (lv_at hl 2 rfl) ?_
      refine lv_iload_n hC.x hC.b dX10_told_35 rfl (lv_at hl 1 rfl) ?_
      refine goip (runV (As := [.int hr, .int pl]) (rest := [.ref (G.2.1 48)]) hC hK hR hl.1 (c_X10_at l hG σ τ hr hq (by first | rfl | (rw [show hr.toInt = hr.toInt from rfl]; done) | (rw [show hr.toInt = hr.toInt from rfl]; exact hp_hq)) pl q (by first | rfl | (rw [show pl.toInt = pl.toInt from rfl]; done) | (rw [show pl.toInt = pl.toInt from rfl]; exact hp_q)) (by omega) (by omega)) (call_b hC.ts TC_X10_at TN_X10 TM_X10_140 hd_X10_at ⟨Nat.le_of_ble_eq_true rfl, Nat.le_of_ble_eq_true rfl⟩) TI_X10_at TS_X10_at (ct_model G _ _) rfl rfl rfl (Nat.le_of_ble_eq_true rfl) dX10_told_36 ⟨Nat.le_of_ble_eq_true rfl, Nat.le_of_ble_eq_true rfl⟩) hS (fun v_11 H locs w_12 hR hS => ?_)
      subst w_12
      refine ald hC hK hR (ct_m_there G _ _) (nI_T _ (by omega)) (by omega) (by omega) (Int.toNat_natCast _) dX10_told_39 ?_
      refine lv_istore_n (lv' := [(3, .int (σ 48 (24 * hq + q))), (0, .ref (G.2.1 35)), (1, .int pl), (2, .int hr)]) hC.x hC.b dX10_told_40 rfl hl (by decide) rfl (fun ls hl => ?_)
      refine lv_aload_n hC.x hC.b dX10_told_41 rfl (lv_at hl 1 rfl) ?_
      refine rget hC hK hR (ct_model G _ _) rfl uin_X10 0 (by decide) TF_X10_9 rfl dX10_told_42 ?_
      refine lv_iload_n hC.x hC.b dX10_told_45 rfl (lv_at hl 2 rfl) ?_
      refine ald hC hK hR (ct_m_kinds G _ _) rfl (by omega) (by omega) hp_q dX10_told_46 ?_
      refine lv_iconst (v := 4) hC.x hC.b dX10_told_47 (by decide) ?_
      refine bi_ne (tgt := 53) (a := (σ 36 q).toInt) (b := 4) hC.x hC.b rfl rfl dX10_told_48 (by decide) (fun c_13 => ?_) (fun c_13 => ?_)
      · skip
        refine lv_aload_n hC.x hC.b dX10_told_53 rfl (lv_at hl 1 rfl) ?_
        refine rget hC hK hR (ct_model G _ _) rfl uin_X10 0 (by decide) TF_X10_9 rfl dX10_told_54 ?_
        refine lv_iload_n hC.x hC.b dX10_told_57 rfl (lv_at hl 2 rfl) ?_
        refine ald hC hK hR (ct_m_kinds G _ _) rfl (by omega) (by omega) hp_q dX10_told_58 ?_
        refine lv_iconst (v := 5) hC.x hC.b dX10_told_59 (by decide) ?_
        refine bi_ne (tgt := 72) (a := (σ 36 q).toInt) (b := 5) hC.x hC.b rfl rfl dX10_told_60 (by decide) (fun c_14 => ?_) (fun c_14 => ?_)
        · skip
          refine lv_aload_n hC.x hC.b dX10_told_72 rfl (lv_at hl 1 rfl) ?_
          refine rget hC hK hR (ct_model G _ _) rfl uin_X10 15 (by decide) TF_X10_56 rfl dX10_told_73 ?_
          refine lv_aload_n hC.x hC.b dX10_told_76 rfl (lv_at hl 1 rfl) ?_
          refine lv_iload_n hC.x hC.b dX10_told_77 rfl (lv_at hl 3 rfl) ?_
          refine lv_iload_n hC.x hC.b dX10_told_78 rfl (lv_at hl 2 rfl) ?_
          refine goip (runV (As := [.int hr, .int pl]) (rest := [.ref (G.2.1 51)]) hC hK hR hl.1 (c_X10_at l hG σ τ hr hq (by first | rfl | (rw [show hr.toInt = hr.toInt from rfl]; done) | (rw [show hr.toInt = hr.toInt from rfl]; exact hp_hq)) pl q (by first | rfl | (rw [show pl.toInt = pl.toInt from rfl]; done) | (rw [show pl.toInt = pl.toInt from rfl]; exact hp_q)) (by omega) (by omega)) (call_b hC.ts TC_X10_at TN_X10 TM_X10_140 hd_X10_at ⟨Nat.le_of_ble_eq_true rfl, Nat.le_of_ble_eq_true rfl⟩) TI_X10_at TS_X10_at (ct_model G _ _) rfl rfl rfl (Nat.le_of_ble_eq_true rfl) dX10_told_79 ⟨Nat.le_of_ble_eq_true rfl, Nat.le_of_ble_eq_true rfl⟩) hS (fun v_15 H locs w_16 hR hS => ?_)
          subst w_16
          refine zald hC hK hR (ct_m_hasBack G _ _) (nI_T _ (by omega)) (by omega) (by omega) (Int.toNat_natCast _) dX10_told_82 ?_
          refine bz_eq (tgt := 105) (a := (σ 51 (24 * hq + q)).toInt) (b := 0) hC.x hC.b rfl rfl dX10_told_83 (by decide) (fun c_17 => ?_) (fun c_17 => ?_)
          · skip
            refine lv_ldc hC.x hC.b hC.ow (hC.ts _ TK_X10_151) dX10_told_105 ?_
            exact reti hC hK hR hS ⟨rfl, (by unfold toldM; repeat (first | rfl | rw [if_pos (by omega)] | rw [if_neg (by omega)]))⟩ dX10_told_107
          · skip
            refine lv_iload_n hC.x hC.b dX10_told_86 rfl (lv_at hl 0 rfl) ?_
            refine lv_aload_n hC.x hC.b dX10_told_87 rfl (lv_at hl 1 rfl) ?_
            refine rget hC hK hR (ct_model G _ _) rfl uin_X10 13 (by decide) TF_X10_50 rfl dX10_told_88 ?_
            refine lv_aload_n hC.x hC.b dX10_told_91 rfl (lv_at hl 1 rfl) ?_
            refine lv_iload_n hC.x hC.b dX10_told_92 rfl (lv_at hl 3 rfl) ?_
            refine lv_iload_n hC.x hC.b dX10_told_93 rfl (lv_at hl 2 rfl) ?_
            refine goip (runV (As := [.int hr, .int pl]) (rest := [.ref (G.2.1 49), .int (σ 48 (24 * hq + q))]) hC hK hR hl.1 (c_X10_at l hG σ τ hr hq (by first | rfl | (rw [show hr.toInt = hr.toInt from rfl]; done) | (rw [show hr.toInt = hr.toInt from rfl]; exact hp_hq)) pl q (by first | rfl | (rw [show pl.toInt = pl.toInt from rfl]; done) | (rw [show pl.toInt = pl.toInt from rfl]; exact hp_q)) (by omega) (by omega)) (call_b hC.ts TC_X10_at TN_X10 TM_X10_140 hd_X10_at ⟨Nat.le_of_ble_eq_true rfl, Nat.le_of_ble_eq_true rfl⟩) TI_X10_at TS_X10_at (ct_model G _ _) rfl rfl rfl (Nat.le_of_ble_eq_true rfl) dX10_told_94 ⟨Nat.le_of_ble_eq_true rfl, Nat.le_of_ble_eq_true rfl⟩) hS (fun v_18 H locs w_19 hR hS => ?_)
            subst w_19
            refine ald hC hK hR (ct_m_backs G _ _) (nI_T _ (by omega)) (by omega) (by omega) (Int.toNat_natCast _) dX10_told_97 ?_
            refine lv_iadd hC.x hC.b dX10_told_98 ?_
            refine lv_bipush (v := 8) hC.x hC.b dX10_told_99 (by decide) ?_
            refine lv_idiv hC.x hC.b dX10_told_101 (by decide) ?_
            refine lv_goto (tgt := 107) hC.x hC.b dX10_told_102 (by decide) ?_
            exact reti hC hK hR hS ⟨rfl, (by unfold toldM; repeat (first | rfl | rw [if_pos (by omega)] | rw [if_neg (by omega)]))⟩ dX10_told_107
        · skip
          refine lv_iload_n hC.x hC.b dX10_told_63 rfl (lv_at hl 0 rfl) ?_
          refine lv_aload_n hC.x hC.b dX10_told_64 rfl (lv_at hl 1 rfl) ?_
          refine rget hC hK hR (ct_model G _ _) rfl uin_X10 11 (by decide) TF_X10_44 rfl dX10_told_65 ?_
          refine lv_iload_n hC.x hC.b dX10_told_68 rfl (lv_at hl 2 rfl) ?_
          refine ald hC hK hR (ct_m_ways G _ _) rfl (by omega) (by omega) hp_q dX10_told_69 ?_
          refine lv_isub hC.x hC.b dX10_told_70 ?_
          exact reti hC hK hR hS ⟨rfl, (by unfold toldM; repeat (first | rfl | rw [if_pos (by omega)] | rw [if_neg (by omega)]))⟩ dX10_told_71
      · skip
        refine lv_iload_n hC.x hC.b dX10_told_51 rfl (lv_at hl 0 rfl) ?_
        exact reti hC hK hR hS ⟨rfl, (by unfold toldM; repeat (first | rfl | rw [if_pos (by omega)] | rw [if_neg (by omega)]))⟩ dX10_told_52
    · skip
      refine lv_ldc hC.x hC.b hC.ow (hC.ts _ TK_X10_151) dX10_told_26 ?_
      exact reti hC hK hR hS ⟨rfl, (by unfold toldM; repeat (first | rfl | rw [if_pos (by omega)] | rw [if_neg (by omega)]))⟩ dX10_told_28
  · skip
    refine bz_eq (tgt := 26) (a := 0) (b := 0) hC.x hC.b rfl rfl dX10_told_9 (by decide) (fun _ => ?_) (fun c_20 => absurd c_20 (by decide))
    refine lv_ldc hC.x hC.b hC.ow (hC.ts _ TK_X10_151) dX10_told_26 ?_
    exact reti hC hK hR hS ⟨rfl, (by unfold toldM; repeat (first | rfl | rw [if_pos (by omega)] | rw [if_neg (by omega)]))⟩ dX10_told_28

abbrev po_X10_tells (σ : SI) (τ : SL) (pl : Int32) (q : Nat) (hr : Int32) (hq : Nat) : Int32 → SI × SL → Prop := fun v u => u = (σ, τ) ∧ (((v = (-1)) ∧ (¬ (0 ≤ pl.toInt ∧ pl.toInt < 24) ∨ (σ 36 q).toInt = -1)) ∨ ((v = (-2)) ∧ (0 ≤ pl.toInt ∧ pl.toInt < 24) ∧ ((σ 36 q).toInt ≠ -1) ∧ (¬ (4 ≤ (σ 36 q).toInt ∧ (σ 36 q).toInt ≤ 6))) ∨ ((v = (toldM σ q hr hq)) ∧ (0 ≤ pl.toInt ∧ pl.toInt < 24) ∧ (4 ≤ (σ 36 q).toInt ∧ (σ 36 q).toInt ≤ 6)))
set_option maxRecDepth 100000 in
set_option maxHeartbeats 4000000 in
theorem c_X10_tells (l : Launch) {G : Gx} {A : Nat → Prop} (hG : GOk G A) (σ : SI) (τ : SL) (pl : Int32) (q : Nat) (hp_q : pl.toInt.toNat = q) (hr : Int32) (hq : Nat) (hp_hq : hr.toInt.toNat = hq) (hnw : 0 ≤ (σ 35 29).toInt ∧ (σ 35 29).toInt ≤ 200) : MI l G A 2 yX10_tells cX10_tells 4 (some .int) [.ref (G.2.1 35), .int pl, .int hr] (σ, τ) (po_X10_tells σ τ pl q hr hq) := by
  refine met_of (own := RX10) (by decide +kernel) rfl [(0, .ref (G.2.1 35)), (1, .int pl), (2, .int hr)] rfl (Nat.le_of_ble_eq_true rfl) ?_
  intro p e s m args below meth c ls hC hK hR hl
  have hS : va_S A s.heap s.heap [] := va_S.rf
  refine lv_aload_n hC.x hC.b dX10_tells_0 rfl (lv_at hl 0 rfl) ?_
  refine lv_iload_n hC.x hC.b dX10_tells_1 rfl (lv_at hl 1 rfl) ?_
  refine lv_iconst (v := 4) hC.x hC.b dX10_tells_2 (by decide) ?_
  refine lv_bipush (v := 6) hC.x hC.b dX10_tells_3 (by decide) ?_
  have av_1 : (4 : Int32).toInt = 4 := by decide
  have av_2 : (6 : Int32).toInt = 6 := by decide
  refine goip (runV (As := [.int pl, .int (4 : Int32), .int (6 : Int32)]) (rest := []) hC hK hR hl.1 (c_X10_fails l hG σ τ pl q (by first | rfl | (rw [show pl.toInt = pl.toInt from rfl]; done) | (rw [show pl.toInt = pl.toInt from rfl]; exact hp_q)) (4 : Int32) (6 : Int32) ) (call_b hC.ts TC_X10_fails TN_X10 TM_X10_144 hd_X10_fails ⟨Nat.le_of_ble_eq_true rfl, Nat.le_of_ble_eq_true rfl⟩) TI_X10_fails TS_X10_fails (ct_model G _ _) rfl rfl rfl (Nat.le_of_ble_eq_true rfl) dX10_tells_5 ⟨Nat.le_of_ble_eq_true rfl, Nat.le_of_ble_eq_true rfl⟩) hS (fun v_3 H locs w_4 hR hS => ?_)
  rcases w_4 with ⟨rfl, f_5⟩ | ⟨rfl, f_6, f_7, f_8⟩ | ⟨rfl, f_9, f_10, f_11⟩
  · skip
    refine lv_istore_n (lv' := [(3, .int (-1 : Int32)), (0, .ref (G.2.1 35)), (1, .int pl), (2, .int hr)]) hC.x hC.b dX10_tells_8 rfl hl (by decide) rfl (fun ls hl => ?_)
    refine lv_iload_n hC.x hC.b dX10_tells_9 rfl (lv_at hl 0 rfl) ?_
    refine bz_eq (tgt := 17) (a := (-1)) (b := 0) hC.x hC.b rfl rfl dX10_tells_10 (by decide) (fun c_12 => absurd c_12 (by decide)) (fun _ => ?_)
    refine lv_iload_n hC.x hC.b dX10_tells_13 rfl (lv_at hl 0 rfl) ?_
    refine lv_goto (tgt := 23) hC.x hC.b dX10_tells_14 (by decide) ?_
    exact reti hC hK hR hS ⟨rfl, (by first | exact Or.inl (⟨by rfl, by first | omega | assumption⟩) | exact Or.inr (Or.inr ((⟨by rfl, by first | omega | assumption, by first | omega | assumption⟩))) | exact False.elim (by omega))⟩ dX10_tells_23
  · skip
    refine lv_istore_n (lv' := [(3, .int (0 : Int32)), (0, .ref (G.2.1 35)), (1, .int pl), (2, .int hr)]) hC.x hC.b dX10_tells_8 rfl hl (by decide) rfl (fun ls hl => ?_)
    refine lv_iload_n hC.x hC.b dX10_tells_9 rfl (lv_at hl 0 rfl) ?_
    refine bz_eq (tgt := 17) (a := 0) (b := 0) hC.x hC.b rfl rfl dX10_tells_10 (by decide) (fun _ => ?_) (fun c_13 => absurd c_13 (by decide))
    refine lv_aload_n hC.x hC.b dX10_tells_17 rfl (lv_at hl 1 rfl) ?_
    refine lv_iload_n hC.x hC.b dX10_tells_18 rfl (lv_at hl 2 rfl) ?_
    refine lv_iload_n hC.x hC.b dX10_tells_19 rfl (lv_at hl 3 rfl) ?_
    refine goip (runV (As := [.int pl, .int hr]) (rest := []) hC hK hR hl.1 (c_X10_told l hG σ τ pl q (by first | rfl | (rw [show pl.toInt = pl.toInt from rfl]; done) | (rw [show pl.toInt = pl.toInt from rfl]; exact hp_q)) hr hq (by first | rfl | (rw [show hr.toInt = hr.toInt from rfl]; done) | (rw [show hr.toInt = hr.toInt from rfl]; exact hp_hq)) (by first | assumption | omega) (by omega)) (call_b hC.ts TC_X10_told TN_X10 TM_X10_152 hd_X10_told ⟨Nat.le_of_ble_eq_true rfl, Nat.le_of_ble_eq_true rfl⟩) TI_X10_told TS_X10_told (ct_model G _ _) rfl rfl rfl (Nat.le_of_ble_eq_true rfl) dX10_tells_20 ⟨Nat.le_of_ble_eq_true rfl, Nat.le_of_ble_eq_true rfl⟩) hS (fun v_14 H locs w_15 hR hS => ?_)
    subst w_15
    exact reti hC hK hR hS ⟨rfl, (by first | exact Or.inl (⟨by rfl, by first | omega | assumption⟩) | exact Or.inr (Or.inl (⟨by rfl, by first | omega | assumption, by first | omega | assumption, by first | omega | assumption⟩)) | exact Or.inr (Or.inr ((⟨by rfl, by first | omega | assumption, by first | omega | assumption⟩))) | exact False.elim (by omega))⟩ dX10_tells_23
  · skip
    refine lv_istore_n (lv' := [(3, .int (-2 : Int32)), (0, .ref (G.2.1 35)), (1, .int pl), (2, .int hr)]) hC.x hC.b dX10_tells_8 rfl hl (by decide) rfl (fun ls hl => ?_)
    refine lv_iload_n hC.x hC.b dX10_tells_9 rfl (lv_at hl 0 rfl) ?_
    refine bz_eq (tgt := 17) (a := (-2)) (b := 0) hC.x hC.b rfl rfl dX10_tells_10 (by decide) (fun c_16 => absurd c_16 (by decide)) (fun _ => ?_)
    refine lv_iload_n hC.x hC.b dX10_tells_13 rfl (lv_at hl 0 rfl) ?_
    refine lv_goto (tgt := 23) hC.x hC.b dX10_tells_14 (by decide) ?_
    exact reti hC hK hR hS ⟨rfl, (by first | exact Or.inr (Or.inl (⟨by rfl, by first | omega | assumption, by first | omega | assumption, by first | omega | assumption⟩)) | exact Or.inr (Or.inr ((⟨by rfl, by first | omega | assumption, by first | omega | assumption⟩))) | exact False.elim (by omega))⟩ dX10_tells_23

abbrev po_X10_other (σ : SI) (τ : SL) (ja : Int32) (jq : Nat) (pl : Int32) : Int32 → SI × SL → Prop := fun v u => u = (σ, τ) ∧ (((v = (otherM σ jq pl))))
set_option maxRecDepth 100000 in
set_option maxHeartbeats 4000000 in
theorem c_X10_other (l : Launch) {G : Gx} {A : Nat → Prop} (hG : GOk G A) (σ : SI) (τ : SL) (ja : Int32) (jq : Nat) (hp_jq : ja.toInt.toNat = jq) (pl : Int32) (hja : 0 ≤ ja.toInt ∧ ja.toInt < 24) : MI l G A 0 yX10_other cX10_other 3 (some .int) [.ref (G.2.1 35), .int ja, .int pl] (σ, τ) (po_X10_other σ τ ja jq pl) := by
  refine met_of (own := RX10) (by decide +kernel) rfl [(0, .ref (G.2.1 35)), (1, .int ja), (2, .int pl)] rfl (Nat.le_of_ble_eq_true rfl) ?_
  intro p e s m args below meth c ls hC hK hR hl
  have hS : va_S A s.heap s.heap [] := va_S.rf
  refine lv_aload_n hC.x hC.b dX10_other_0 rfl (lv_at hl 0 rfl) ?_
  refine rget hC hK hR (ct_model G _ _) rfl uin_X10 1 (by decide) TF_X10_13 rfl dX10_other_1 ?_
  refine lv_iload_n hC.x hC.b dX10_other_4 rfl (lv_at hl 1 rfl) ?_
  refine ald hC hK hR (ct_m_one G _ _) rfl (by omega) (by omega) hp_jq dX10_other_5 ?_
  refine lv_iload_n hC.x hC.b dX10_other_6 rfl (lv_at hl 2 rfl) ?_
  refine bi_ne (tgt := 19) (a := (σ 37 jq).toInt) (b := pl.toInt) hC.x hC.b rfl rfl dX10_other_7 (by decide) (fun c_1 => ?_) (fun c_1 => ?_)
  · skip
    refine lv_aload_n hC.x hC.b dX10_other_19 rfl (lv_at hl 0 rfl) ?_
    refine rget hC hK hR (ct_model G _ _) rfl uin_X10 2 (by decide) TF_X10_16 rfl dX10_other_20 ?_
    refine lv_iload_n hC.x hC.b dX10_other_23 rfl (lv_at hl 1 rfl) ?_
    refine ald hC hK hR (ct_m_two G _ _) rfl (by omega) (by omega) hp_jq dX10_other_24 ?_
    refine lv_iload_n hC.x hC.b dX10_other_25 rfl (lv_at hl 2 rfl) ?_
    refine bi_ne (tgt := 38) (a := (σ 38 jq).toInt) (b := pl.toInt) hC.x hC.b rfl rfl dX10_other_26 (by decide) (fun c_2 => ?_) (fun c_2 => ?_)
    · skip
      refine lv_iconst (v := (-1)) hC.x hC.b dX10_other_38 (by decide) ?_
      exact reti hC hK hR hS ⟨rfl, (by unfold otherM; repeat (first | rfl | rw [if_pos (by omega)] | rw [if_neg (by omega)]))⟩ dX10_other_39
    · skip
      refine lv_aload_n hC.x hC.b dX10_other_29 rfl (lv_at hl 0 rfl) ?_
      refine rget hC hK hR (ct_model G _ _) rfl uin_X10 1 (by decide) TF_X10_13 rfl dX10_other_30 ?_
      refine lv_iload_n hC.x hC.b dX10_other_33 rfl (lv_at hl 1 rfl) ?_
      refine ald hC hK hR (ct_m_one G _ _) rfl (by omega) (by omega) hp_jq dX10_other_34 ?_
      refine lv_goto (tgt := 39) hC.x hC.b dX10_other_35 (by decide) ?_
      exact reti hC hK hR hS ⟨rfl, (by unfold otherM; repeat (first | rfl | rw [if_pos (by omega)] | rw [if_neg (by omega)]))⟩ dX10_other_39
  · skip
    refine lv_aload_n hC.x hC.b dX10_other_10 rfl (lv_at hl 0 rfl) ?_
    refine rget hC hK hR (ct_model G _ _) rfl uin_X10 2 (by decide) TF_X10_16 rfl dX10_other_11 ?_
    refine lv_iload_n hC.x hC.b dX10_other_14 rfl (lv_at hl 1 rfl) ?_
    refine ald hC hK hR (ct_m_two G _ _) rfl (by omega) (by omega) hp_jq dX10_other_15 ?_
    refine lv_goto (tgt := 39) hC.x hC.b dX10_other_16 (by decide) ?_
    exact reti hC hK hR hS ⟨rfl, (by unfold otherM; repeat (first | rfl | rw [if_pos (by omega)] | rw [if_neg (by omega)]))⟩ dX10_other_39
