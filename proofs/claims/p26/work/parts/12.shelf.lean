abbrev po_X5_kindAt (σ : SI) (τ : SL) (pl : Int32) (q : Nat) : Int32 → SI × SL → Prop := fun v u => u = (σ, τ) ∧ (((v = σ 2 q) ∧ (0 ≤ pl.toInt) ∧ (pl.toInt < 24)) ∨ ((v = (-1)) ∧ (¬ (0 ≤ pl.toInt ∧ pl.toInt < 24))))
set_option maxRecDepth 100000 in
set_option maxHeartbeats 4000000 in
theorem c_X5_kindAt (l : Launch) {G : Gx} {A : Nat → Prop} (hG : GOk G A) (σ : SI) (τ : SL) (pl : Int32) (q : Nat) (hp_q : pl.toInt.toNat = q) : MI l G A 0 yX5_kindAt cX5_kindAt 2 (some .int) [.ref (G.2.1 1), .int pl] (σ, τ) (po_X5_kindAt σ τ pl q) := by
  refine met_of (own := RX5) (by decide +kernel) rfl [(0, .ref (G.2.1 1)), (1, .int pl)] rfl (Nat.le_of_ble_eq_true rfl) ?_
  intro p e s m args below meth c ls hC hK hR hl
  have hS : va_S A s.heap s.heap [] := va_S.rf
  refine lv_iload_n hC.x hC.b dX5_kindAt_0 rfl (lv_at hl 1 rfl) ?_
  refine bz_lt (tgt := 22) (a := pl.toInt) (b := 0) hC.x hC.b rfl rfl dX5_kindAt_1 (by decide) (fun c_1 => ?_) (fun c_1 => ?_)
  · skip
    refine lv_iconst (v := (-1)) hC.x hC.b dX5_kindAt_22 (by decide) ?_
    exact reti hC hK hR hS ⟨rfl, (by first | exact Or.inl (⟨by first | rfl | omega, by first | omega | assumption, by first | omega | assumption⟩) | exact Or.inr ((⟨by first | rfl | omega, by first | omega | assumption⟩)) | exact False.elim (by omega))⟩ dX5_kindAt_23
  · skip
    refine lv_iload_n hC.x hC.b dX5_kindAt_4 rfl (lv_at hl 1 rfl) ?_
    refine lv_aload_n hC.x hC.b dX5_kindAt_5 rfl (lv_at hl 0 rfl) ?_
    refine rget hC hK hR (ct_shelf G _ _) rfl uin_X5 0 (by decide) TF_X5_9 rfl dX5_kindAt_6 ?_
    refine ralen (t := 0) hC hK hR (by decide) (ct_kinds G _ _) (v := 24) rfl dX5_kindAt_9 ?_
    refine bi_ge (tgt := 22) (a := pl.toInt) (b := 24) hC.x hC.b rfl rfl dX5_kindAt_10 (by decide) (fun c_2 => ?_) (fun c_2 => ?_)
    · skip
      refine lv_iconst (v := (-1)) hC.x hC.b dX5_kindAt_22 (by decide) ?_
      exact reti hC hK hR hS ⟨rfl, (by first | exact Or.inl (⟨by first | rfl | omega, by first | omega | assumption, by first | omega | assumption⟩) | exact Or.inr ((⟨by first | rfl | omega, by first | omega | assumption⟩)) | exact False.elim (by omega))⟩ dX5_kindAt_23
    · skip
      refine lv_aload_n hC.x hC.b dX5_kindAt_13 rfl (lv_at hl 0 rfl) ?_
      refine rget hC hK hR (ct_shelf G _ _) rfl uin_X5 0 (by decide) TF_X5_9 rfl dX5_kindAt_14 ?_
      refine lv_iload_n hC.x hC.b dX5_kindAt_17 rfl (lv_at hl 1 rfl) ?_
      refine ald hC hK hR (ct_kinds G _ _) rfl (by omega) (by omega) hp_q dX5_kindAt_18 ?_
      refine lv_goto (tgt := 23) hC.x hC.b dX5_kindAt_19 (by decide) ?_
      exact reti hC hK hR hS ⟨rfl, (by first | exact Or.inl (⟨by first | rfl | omega, by first | omega | assumption, by first | omega | assumption⟩) | exact Or.inr ((⟨by first | rfl | omega, by first | omega | assumption⟩)) | exact False.elim (by omega))⟩ dX5_kindAt_23

abbrev po_X5_clockAt (G : Gx) (σ : SI) (τ : SL) (pl : Int32) (q : Nat) : Option Nat → SI × SL → Prop := fun v u => u = (σ, τ) ∧ (((v = none) ∧ (¬ (0 ≤ pl.toInt ∧ pl.toInt < 24 ∧ 0 ≤ (σ 2 q).toInt ∧ (σ 2 q).toInt ≤ 3))) ∨ ((v = some (G.2.1 (80 + q))) ∧ (0 ≤ pl.toInt) ∧ (pl.toInt < 24) ∧ (0 ≤ (σ 2 q).toInt) ∧ ((σ 2 q).toInt ≤ 3)))
set_option maxRecDepth 100000 in
set_option maxHeartbeats 4000000 in
theorem c_X5_clockAt (l : Launch) {G : Gx} {A : Nat → Prop} (hG : GOk G A) (σ : SI) (τ : SL) (pl : Int32) (q : Nat) (hp_q : pl.toInt.toNat = q) : MR l G A 1 yX5_clockAt cX5_clockAt 2 (some (.object "TimeBench$Clock")) [.ref (G.2.1 1), .int pl] (σ, τ) (po_X5_clockAt G σ τ pl q) := by
  refine met_of (own := RX5) (by decide +kernel) rfl [(0, .ref (G.2.1 1)), (1, .int pl)] rfl (Nat.le_of_ble_eq_true rfl) ?_
  intro p e s m args below meth c ls hC hK hR hl
  have hS : va_S A s.heap s.heap [] := va_S.rf
  refine lv_iload_n hC.x hC.b dX5_clockAt_0 rfl (lv_at hl 1 rfl) ?_
  refine bz_lt (tgt := 33) (a := pl.toInt) (b := 0) hC.x hC.b rfl rfl dX5_clockAt_1 (by decide) (fun c_1 => ?_) (fun c_1 => ?_)
  · skip
    refine lv_null hC.x hC.b dX5_clockAt_33 ?_
    exact retn hC hK hR hS ⟨rfl, (by first | exact Or.inl (⟨by first | rfl | omega, by first | omega | assumption⟩) | exact False.elim (by omega))⟩ dX5_clockAt_34
  · skip
    refine lv_iload_n hC.x hC.b dX5_clockAt_4 rfl (lv_at hl 1 rfl) ?_
    refine lv_aload_n hC.x hC.b dX5_clockAt_5 rfl (lv_at hl 0 rfl) ?_
    refine rget hC hK hR (ct_shelf G _ _) rfl uin_X5 1 (by decide) TF_X5_17 rfl dX5_clockAt_6 ?_
    refine ralen (t := 2) hC hK hR (by decide) (ct_clocks G _ _) (v := 24) rfl dX5_clockAt_9 ?_
    refine bi_ge (tgt := 33) (a := pl.toInt) (b := 24) hC.x hC.b rfl rfl dX5_clockAt_10 (by decide) (fun c_2 => ?_) (fun c_2 => ?_)
    · skip
      refine lv_null hC.x hC.b dX5_clockAt_33 ?_
      exact retn hC hK hR hS ⟨rfl, (by first | exact Or.inl (⟨by first | rfl | omega, by first | omega | assumption⟩) | exact False.elim (by omega))⟩ dX5_clockAt_34
    · skip
      refine lv_aload_n hC.x hC.b dX5_clockAt_13 rfl (lv_at hl 0 rfl) ?_
      refine lv_iload_n hC.x hC.b dX5_clockAt_14 rfl (lv_at hl 1 rfl) ?_
      refine goip (runV (As := [.int pl]) (rest := []) hC hK hR hl.1 (c_X5_kindAt l hG σ τ pl q (by first | rfl | (rw [show pl.toInt = pl.toInt from rfl]; done) | (rw [show pl.toInt = pl.toInt from rfl]; exact hp_q)) ) (call_b hC.ts TC_X5_kindAt TN_X5 TM_X5_31 hd_X5_kindAt ⟨Nat.le_of_ble_eq_true rfl, Nat.le_of_ble_eq_true rfl⟩) TI_X5_kindAt TS_X5_kindAt (ct_shelf G _ _) rfl rfl rfl (Nat.le_of_ble_eq_true rfl) dX5_clockAt_15 ⟨Nat.le_of_ble_eq_true rfl, Nat.le_of_ble_eq_true rfl⟩) hS (fun v_3 H locs w_4 hR hS => ?_)
      rcases w_4 with ⟨rfl, f_5, f_6⟩ | ⟨rfl, f_7⟩
      · skip
        refine goip (runSN (As := [.int (σ 2 q)]) (rest := []) hC hK hR hl.1 (c_X9_isClockKind l hG σ τ (σ 2 q) ) (call_n hC.ts TC_X9_isClockKind TN_X9 hK.2.2.2.2.1 hd_X9_isClockKind ⟨Nat.le_of_ble_eq_true rfl, Nat.le_of_ble_eq_true rfl⟩) TT_X9_isClockKind rfl rfl (Nat.le_of_ble_eq_true rfl) dX5_clockAt_18 ⟨Nat.le_of_ble_eq_true rfl, Nat.le_of_ble_eq_true rfl⟩) hS (fun v_8 H locs w_9 hR hS => ?_)
        rcases w_9 with ⟨rfl, f_10, f_11⟩ | ⟨rfl, f_12⟩
        · skip
          refine bz_eq (tgt := 33) (a := 1) (b := 0) hC.x hC.b rfl rfl dX5_clockAt_21 (by decide) (fun c_13 => absurd c_13 (by decide)) (fun _ => ?_)
          refine lv_aload_n hC.x hC.b dX5_clockAt_24 rfl (lv_at hl 0 rfl) ?_
          refine rget hC hK hR (ct_shelf G _ _) rfl uin_X5 1 (by decide) TF_X5_17 rfl dX5_clockAt_25 ?_
          refine lv_iload_n hC.x hC.b dX5_clockAt_28 rfl (lv_at hl 1 rfl) ?_
          have hq_14 : q < 24 := by omega
          refine aald (t0 := 2) hC hK hR (by decide) rfl (ct_clocks G _ _) rfl (by omega) (by omega) hp_q dX5_clockAt_29 ?_
          refine lv_goto (tgt := 34) hC.x hC.b dX5_clockAt_30 (by decide) ?_
          exact reta hC hK hR hS ⟨rfl, (by first | exact Or.inr ((⟨by first | rfl | omega, by first | omega | assumption, by first | omega | assumption, by first | omega | assumption, by first | omega | assumption⟩)) | exact False.elim (by omega))⟩ dX5_clockAt_34
        · skip
          refine bz_eq (tgt := 33) (a := 0) (b := 0) hC.x hC.b rfl rfl dX5_clockAt_21 (by decide) (fun _ => ?_) (fun c_15 => absurd c_15 (by decide))
          refine lv_null hC.x hC.b dX5_clockAt_33 ?_
          exact retn hC hK hR hS ⟨rfl, (by first | exact Or.inl (⟨by first | rfl | omega, by first | omega | assumption⟩) | exact False.elim (by omega))⟩ dX5_clockAt_34
      · skip
        have av_16 : (-1 : Int32).toInt = -1 := by decide
        refine goip (runSN (As := [.int (-1 : Int32)]) (rest := []) hC hK hR hl.1 (c_X9_isClockKind l hG σ τ (-1 : Int32) ) (call_n hC.ts TC_X9_isClockKind TN_X9 hK.2.2.2.2.1 hd_X9_isClockKind ⟨Nat.le_of_ble_eq_true rfl, Nat.le_of_ble_eq_true rfl⟩) TT_X9_isClockKind rfl rfl (Nat.le_of_ble_eq_true rfl) dX5_clockAt_18 ⟨Nat.le_of_ble_eq_true rfl, Nat.le_of_ble_eq_true rfl⟩) hS (fun v_17 H locs w_18 hR hS => ?_)
        rcases w_18 with ⟨rfl, f_19, f_20⟩ | ⟨rfl, f_21⟩
        · skip
          refine bz_eq (tgt := 33) (a := 1) (b := 0) hC.x hC.b rfl rfl dX5_clockAt_21 (by decide) (fun c_22 => absurd c_22 (by decide)) (fun _ => ?_)
          refine lv_aload_n hC.x hC.b dX5_clockAt_24 rfl (lv_at hl 0 rfl) ?_
          refine rget hC hK hR (ct_shelf G _ _) rfl uin_X5 1 (by decide) TF_X5_17 rfl dX5_clockAt_25 ?_
          refine lv_iload_n hC.x hC.b dX5_clockAt_28 rfl (lv_at hl 1 rfl) ?_
          have hq_23 : q < 24 := by omega
          refine aald (t0 := 2) hC hK hR (by decide) rfl (ct_clocks G _ _) rfl (by omega) (by omega) hp_q dX5_clockAt_29 ?_
          refine lv_goto (tgt := 34) hC.x hC.b dX5_clockAt_30 (by decide) ?_
          exact reta hC hK hR hS ⟨rfl, (by first | exact Or.inr ((⟨by first | rfl | omega, by first | omega | assumption, by first | omega | assumption, by first | omega | assumption, by first | omega | assumption⟩)) | exact False.elim (by omega))⟩ dX5_clockAt_34
        · skip
          refine bz_eq (tgt := 33) (a := 0) (b := 0) hC.x hC.b rfl rfl dX5_clockAt_21 (by decide) (fun _ => ?_) (fun c_24 => absurd c_24 (by decide))
          refine lv_null hC.x hC.b dX5_clockAt_33 ?_
          exact retn hC hK hR hS ⟨rfl, (by first | exact Or.inl (⟨by first | rfl | omega, by first | omega | assumption⟩) | exact False.elim (by omega))⟩ dX5_clockAt_34

abbrev po_X5_linkAt (G : Gx) (σ : SI) (τ : SL) (pl : Int32) (q : Nat) : Option Nat → SI × SL → Prop := fun v u => u = (σ, τ) ∧ (((v = none) ∧ (¬ (0 ≤ pl.toInt ∧ pl.toInt < 24 ∧ 4 ≤ (σ 2 q).toInt ∧ (σ 2 q).toInt ≤ 6))) ∨ ((v = some (G.2.1 (104 + q))) ∧ (0 ≤ pl.toInt) ∧ (pl.toInt < 24) ∧ (4 ≤ (σ 2 q).toInt) ∧ ((σ 2 q).toInt ≤ 6)))
set_option maxRecDepth 100000 in
set_option maxHeartbeats 4000000 in
theorem c_X5_linkAt (l : Launch) {G : Gx} {A : Nat → Prop} (hG : GOk G A) (σ : SI) (τ : SL) (pl : Int32) (q : Nat) (hp_q : pl.toInt.toNat = q) : MR l G A 1 yX5_linkAt cX5_linkAt 2 (some (.object "TimeBench$Link")) [.ref (G.2.1 1), .int pl] (σ, τ) (po_X5_linkAt G σ τ pl q) := by
  refine met_of (own := RX5) (by decide +kernel) rfl [(0, .ref (G.2.1 1)), (1, .int pl)] rfl (Nat.le_of_ble_eq_true rfl) ?_
  intro p e s m args below meth c ls hC hK hR hl
  have hS : va_S A s.heap s.heap [] := va_S.rf
  refine lv_iload_n hC.x hC.b dX5_linkAt_0 rfl (lv_at hl 1 rfl) ?_
  refine bz_lt (tgt := 33) (a := pl.toInt) (b := 0) hC.x hC.b rfl rfl dX5_linkAt_1 (by decide) (fun c_1 => ?_) (fun c_1 => ?_)
  · skip
    refine lv_null hC.x hC.b dX5_linkAt_33 ?_
    exact retn hC hK hR hS ⟨rfl, (by first | exact Or.inl (⟨by first | rfl | omega, by first | omega | assumption⟩) | exact False.elim (by omega))⟩ dX5_linkAt_34
  · skip
    refine lv_iload_n hC.x hC.b dX5_linkAt_4 rfl (lv_at hl 1 rfl) ?_
    refine lv_aload_n hC.x hC.b dX5_linkAt_5 rfl (lv_at hl 0 rfl) ?_
    refine rget hC hK hR (ct_shelf G _ _) rfl uin_X5 2 (by decide) TF_X5_23 rfl dX5_linkAt_6 ?_
    refine ralen (t := 3) hC hK hR (by decide) (ct_links G _ _) (v := 24) rfl dX5_linkAt_9 ?_
    refine bi_ge (tgt := 33) (a := pl.toInt) (b := 24) hC.x hC.b rfl rfl dX5_linkAt_10 (by decide) (fun c_2 => ?_) (fun c_2 => ?_)
    · skip
      refine lv_null hC.x hC.b dX5_linkAt_33 ?_
      exact retn hC hK hR hS ⟨rfl, (by first | exact Or.inl (⟨by first | rfl | omega, by first | omega | assumption⟩) | exact False.elim (by omega))⟩ dX5_linkAt_34
    · skip
      refine lv_aload_n hC.x hC.b dX5_linkAt_13 rfl (lv_at hl 0 rfl) ?_
      refine lv_iload_n hC.x hC.b dX5_linkAt_14 rfl (lv_at hl 1 rfl) ?_
      refine goip (runV (As := [.int pl]) (rest := []) hC hK hR hl.1 (c_X5_kindAt l hG σ τ pl q (by first | rfl | (rw [show pl.toInt = pl.toInt from rfl]; done) | (rw [show pl.toInt = pl.toInt from rfl]; exact hp_q)) ) (call_b hC.ts TC_X5_kindAt TN_X5 TM_X5_31 hd_X5_kindAt ⟨Nat.le_of_ble_eq_true rfl, Nat.le_of_ble_eq_true rfl⟩) TI_X5_kindAt TS_X5_kindAt (ct_shelf G _ _) rfl rfl rfl (Nat.le_of_ble_eq_true rfl) dX5_linkAt_15 ⟨Nat.le_of_ble_eq_true rfl, Nat.le_of_ble_eq_true rfl⟩) hS (fun v_3 H locs w_4 hR hS => ?_)
      rcases w_4 with ⟨rfl, f_5, f_6⟩ | ⟨rfl, f_7⟩
      · skip
        refine goip (runSN (As := [.int (σ 2 q)]) (rest := []) hC hK hR hl.1 (c_X9_isLinkKind l hG σ τ (σ 2 q) ) (call_n hC.ts TC_X9_isLinkKind TN_X9 hK.2.2.2.2.2.1 hd_X9_isLinkKind ⟨Nat.le_of_ble_eq_true rfl, Nat.le_of_ble_eq_true rfl⟩) TT_X9_isLinkKind rfl rfl (Nat.le_of_ble_eq_true rfl) dX5_linkAt_18 ⟨Nat.le_of_ble_eq_true rfl, Nat.le_of_ble_eq_true rfl⟩) hS (fun v_8 H locs w_9 hR hS => ?_)
        rcases w_9 with ⟨rfl, f_10, f_11⟩ | ⟨rfl, f_12⟩
        · skip
          refine bz_eq (tgt := 33) (a := 1) (b := 0) hC.x hC.b rfl rfl dX5_linkAt_21 (by decide) (fun c_13 => absurd c_13 (by decide)) (fun _ => ?_)
          refine lv_aload_n hC.x hC.b dX5_linkAt_24 rfl (lv_at hl 0 rfl) ?_
          refine rget hC hK hR (ct_shelf G _ _) rfl uin_X5 2 (by decide) TF_X5_23 rfl dX5_linkAt_25 ?_
          refine lv_iload_n hC.x hC.b dX5_linkAt_28 rfl (lv_at hl 1 rfl) ?_
          have hq_14 : q < 24 := by omega
          refine aald (t0 := 3) hC hK hR (by decide) rfl (ct_links G _ _) rfl (by omega) (by omega) hp_q dX5_linkAt_29 ?_
          refine lv_goto (tgt := 34) hC.x hC.b dX5_linkAt_30 (by decide) ?_
          exact reta hC hK hR hS ⟨rfl, (by first | exact Or.inr ((⟨by first | rfl | omega, by first | omega | assumption, by first | omega | assumption, by first | omega | assumption, by first | omega | assumption⟩)) | exact False.elim (by omega))⟩ dX5_linkAt_34
        · skip
          refine bz_eq (tgt := 33) (a := 0) (b := 0) hC.x hC.b rfl rfl dX5_linkAt_21 (by decide) (fun _ => ?_) (fun c_15 => absurd c_15 (by decide))
          refine lv_null hC.x hC.b dX5_linkAt_33 ?_
          exact retn hC hK hR hS ⟨rfl, (by first | exact Or.inl (⟨by first | rfl | omega, by first | omega | assumption⟩) | exact False.elim (by omega))⟩ dX5_linkAt_34
      · skip
        have av_16 : (-1 : Int32).toInt = -1 := by decide
        refine goip (runSN (As := [.int (-1 : Int32)]) (rest := []) hC hK hR hl.1 (c_X9_isLinkKind l hG σ τ (-1 : Int32) ) (call_n hC.ts TC_X9_isLinkKind TN_X9 hK.2.2.2.2.2.1 hd_X9_isLinkKind ⟨Nat.le_of_ble_eq_true rfl, Nat.le_of_ble_eq_true rfl⟩) TT_X9_isLinkKind rfl rfl (Nat.le_of_ble_eq_true rfl) dX5_linkAt_18 ⟨Nat.le_of_ble_eq_true rfl, Nat.le_of_ble_eq_true rfl⟩) hS (fun v_17 H locs w_18 hR hS => ?_)
        rcases w_18 with ⟨rfl, f_19, f_20⟩ | ⟨rfl, f_21⟩
        · skip
          refine bz_eq (tgt := 33) (a := 1) (b := 0) hC.x hC.b rfl rfl dX5_linkAt_21 (by decide) (fun c_22 => absurd c_22 (by decide)) (fun _ => ?_)
          refine lv_aload_n hC.x hC.b dX5_linkAt_24 rfl (lv_at hl 0 rfl) ?_
          refine rget hC hK hR (ct_shelf G _ _) rfl uin_X5 2 (by decide) TF_X5_23 rfl dX5_linkAt_25 ?_
          refine lv_iload_n hC.x hC.b dX5_linkAt_28 rfl (lv_at hl 1 rfl) ?_
          have hq_23 : q < 24 := by omega
          refine aald (t0 := 3) hC hK hR (by decide) rfl (ct_links G _ _) rfl (by omega) (by omega) hp_q dX5_linkAt_29 ?_
          refine lv_goto (tgt := 34) hC.x hC.b dX5_linkAt_30 (by decide) ?_
          exact reta hC hK hR hS ⟨rfl, (by first | exact Or.inr ((⟨by first | rfl | omega, by first | omega | assumption, by first | omega | assumption, by first | omega | assumption, by first | omega | assumption⟩)) | exact False.elim (by omega))⟩ dX5_linkAt_34
        · skip
          refine bz_eq (tgt := 33) (a := 0) (b := 0) hC.x hC.b rfl rfl dX5_linkAt_21 (by decide) (fun _ => ?_) (fun c_24 => absurd c_24 (by decide))
          refine lv_null hC.x hC.b dX5_linkAt_33 ?_
          exact retn hC hK hR hS ⟨rfl, (by first | exact Or.inl (⟨by first | rfl | omega, by first | omega | assumption⟩) | exact False.elim (by omega))⟩ dX5_linkAt_34

abbrev po_X5_empty (σ : SI) (τ : SL) (pl : Int32) (q : Nat) : SI × SL → Prop := fun u => ((u.1 = up2 σ 2 q (-1)) ∧ (u.2 = τ) ∧ (0 ≤ pl.toInt) ∧ (pl.toInt < 24)) ∨ ((u.1 = σ) ∧ (u.2 = τ) ∧ (¬ (0 ≤ pl.toInt ∧ pl.toInt < 24)))
set_option maxRecDepth 100000 in
set_option maxHeartbeats 4000000 in
theorem c_X5_empty (l : Launch) {G : Gx} {A : Nat → Prop} (hG : GOk G A) (σ : SI) (τ : SL) (pl : Int32) (q : Nat) (hp_q : pl.toInt.toNat = q) : MV l G A 0 yX5_empty cX5_empty 2 none [.ref (G.2.1 1), .int pl] (σ, τ) (po_X5_empty σ τ pl q) := by
  refine met_of (own := RX5) (by decide +kernel) rfl [(0, .ref (G.2.1 1)), (1, .int pl)] rfl (Nat.le_of_ble_eq_true rfl) ?_
  intro p e s m args below meth c ls hC hK hR hl
  have hS : va_S A s.heap s.heap [] := va_S.rf
  refine lv_iload_n hC.x hC.b dX5_empty_0 rfl (lv_at hl 1 rfl) ?_
  refine bz_lt (tgt := 20) (a := pl.toInt) (b := 0) hC.x hC.b rfl rfl dX5_empty_1 (by decide) (fun c_1 => ?_) (fun c_1 => ?_)
  · skip
    exact retv hC hK hR hS (by first | exact Or.inl (⟨by first | rfl | assumption, by rfl, by first | omega | assumption, by first | omega | assumption⟩) | exact Or.inr ((⟨by first | rfl | assumption, by rfl, by first | omega | assumption⟩)) | exact False.elim (by omega)) dX5_empty_20
  · skip
    refine lv_iload_n hC.x hC.b dX5_empty_4 rfl (lv_at hl 1 rfl) ?_
    refine lv_aload_n hC.x hC.b dX5_empty_5 rfl (lv_at hl 0 rfl) ?_
    refine rget hC hK hR (ct_shelf G _ _) rfl uin_X5 0 (by decide) TF_X5_9 rfl dX5_empty_6 ?_
    refine ralen (t := 0) hC hK hR (by decide) (ct_kinds G _ _) (v := 24) rfl dX5_empty_9 ?_
    refine bi_ge (tgt := 20) (a := pl.toInt) (b := 24) hC.x hC.b rfl rfl dX5_empty_10 (by decide) (fun c_2 => ?_) (fun c_2 => ?_)
    · skip
      exact retv hC hK hR hS (by first | exact Or.inl (⟨by first | rfl | assumption, by rfl, by first | omega | assumption, by first | omega | assumption⟩) | exact Or.inr ((⟨by first | rfl | assumption, by rfl, by first | omega | assumption⟩)) | exact False.elim (by omega)) dX5_empty_20
    · skip
      refine lv_aload_n hC.x hC.b dX5_empty_13 rfl (lv_at hl 0 rfl) ?_
      refine rget hC hK hR (ct_shelf G _ _) rfl uin_X5 0 (by decide) TF_X5_9 rfl dX5_empty_14 ?_
      refine lv_iload_n hC.x hC.b dX5_empty_17 rfl (lv_at hl 1 rfl) ?_
      refine lv_iconst (v := (-1)) hC.x hC.b dX5_empty_18 (by decide) ?_
      refine ast hC hK hG hR hS (fun _ => ct_kinds G _ _) rfl (by omega) (by omega) hp_q dX5_empty_19 (fun s_3 es_4 H locs hR hS => ?_)
      exact retv hC hK hR hS (by first | exact Or.inl (⟨by subst es_4; (first | rfl | assumption), by subst es_4; (rfl), by subst es_4; (first | omega | assumption), by subst es_4; (first | omega | assumption)⟩) | exact Or.inr ((⟨by subst es_4; (first | rfl | assumption), by subst es_4; (rfl), by subst es_4; (first | omega | assumption)⟩)) | exact False.elim (by omega)) dX5_empty_20

abbrev po_X5_layLamp (σ : SI) (τ : SL) (pl : Int32) (q : Nat) : Int32 → SI × SL → Prop := fun v u => ((v = (1)) ∧ (u.1 = up2 σ 2 q 7) ∧ (u.2 = τ) ∧ (0 ≤ pl.toInt) ∧ (pl.toInt < 24)) ∨ ((v = (0)) ∧ (u.1 = σ) ∧ (u.2 = τ) ∧ (¬ (0 ≤ pl.toInt ∧ pl.toInt < 24)))
set_option maxRecDepth 100000 in
set_option maxHeartbeats 4000000 in
theorem c_X5_layLamp (l : Launch) {G : Gx} {A : Nat → Prop} (hG : GOk G A) (σ : SI) (τ : SL) (pl : Int32) (q : Nat) (hp_q : pl.toInt.toNat = q) : MI l G A 0 yX5_layLamp cX5_layLamp 2 (some .boolean) [.ref (G.2.1 1), .int pl] (σ, τ) (po_X5_layLamp σ τ pl q) := by
  refine met_of (own := RX5) (by decide +kernel) rfl [(0, .ref (G.2.1 1)), (1, .int pl)] rfl (Nat.le_of_ble_eq_true rfl) ?_
  intro p e s m args below meth c ls hC hK hR hl
  have hS : va_S A s.heap s.heap [] := va_S.rf
  refine lv_iload_n hC.x hC.b dX5_layLamp_0 rfl (lv_at hl 1 rfl) ?_
  refine bz_lt (tgt := 13) (a := pl.toInt) (b := 0) hC.x hC.b rfl rfl dX5_layLamp_1 (by decide) (fun c_1 => ?_) (fun c_1 => ?_)
  · skip
    refine lv_iconst (v := 0) hC.x hC.b dX5_layLamp_13 (by decide) ?_
    exact retz hC hK hR hS (Or.inl rfl) (by first | exact Or.inr ((⟨by first | rfl | omega, by first | rfl | assumption, by rfl, by first | omega | assumption⟩)) | exact False.elim (by omega)) dX5_layLamp_14
  · skip
    refine lv_iload_n hC.x hC.b dX5_layLamp_4 rfl (lv_at hl 1 rfl) ?_
    refine lv_aload_n hC.x hC.b dX5_layLamp_5 rfl (lv_at hl 0 rfl) ?_
    refine rget hC hK hR (ct_shelf G _ _) rfl uin_X5 0 (by decide) TF_X5_9 rfl dX5_layLamp_6 ?_
    refine ralen (t := 0) hC hK hR (by decide) (ct_kinds G _ _) (v := 24) rfl dX5_layLamp_9 ?_
    refine bi_lt (tgt := 15) (a := pl.toInt) (b := 24) hC.x hC.b rfl rfl dX5_layLamp_10 (by decide) (fun c_2 => ?_) (fun c_2 => ?_)
    · skip
      refine lv_aload_n hC.x hC.b dX5_layLamp_15 rfl (lv_at hl 0 rfl) ?_
      refine rget hC hK hR (ct_shelf G _ _) rfl uin_X5 0 (by decide) TF_X5_9 rfl dX5_layLamp_16 ?_
      refine lv_iload_n hC.x hC.b dX5_layLamp_19 rfl (lv_at hl 1 rfl) ?_
      refine lv_bipush (v := 7) hC.x hC.b dX5_layLamp_20 (by decide) ?_
      refine ast hC hK hG hR hS (fun _ => ct_kinds G _ _) rfl (by omega) (by omega) hp_q dX5_layLamp_22 (fun s_3 es_4 H locs hR hS => ?_)
      refine lv_iconst (v := 1) hC.x hC.b dX5_layLamp_23 (by decide) ?_
      exact retz hC hK hR hS (Or.inr rfl) (by first | exact Or.inl (⟨by subst es_4; (first | rfl | omega), by subst es_4; (first | rfl | assumption), by subst es_4; (rfl), by subst es_4; (first | omega | assumption), by subst es_4; (first | omega | assumption)⟩) | exact False.elim (by omega)) dX5_layLamp_24
    · skip
      refine lv_iconst (v := 0) hC.x hC.b dX5_layLamp_13 (by decide) ?_
      exact retz hC hK hR hS (Or.inl rfl) (by first | exact Or.inr ((⟨by first | rfl | omega, by first | rfl | assumption, by rfl, by first | omega | assumption⟩)) | exact False.elim (by omega)) dX5_layLamp_14

abbrev po_X5_layClock (σ : SI) (τ : SL) (pl : Int32) (q : Nat) (ka : Int32) (sa : Int32) (ra : Int32) (hr : Int32) : Int32 → SI × SL → Prop := fun v u => ((v = (0)) ∧ (u.1 = σ) ∧ (u.2 = τ) ∧ (¬ (2 ≤ sa.toInt ∧ sa.toInt ≤ 12 ∧ 1 ≤ ra.toInt ∧ ra.toInt ≤ 12) ∨ ¬ (0 ≤ pl.toInt ∧ pl.toInt < 24))) ∨ ((v = (1)) ∧ (u.1 = (up2 (up2 (up2 (up2 (up2 (up2 (up2 (up2 (up2 (up2 (up2 (up2 σ 2 q ka) (80 + q) 1 ka) (80 + q) 2 sa) (80 + q) 3 ra) (80 + q) 4 0) (80 + q) 5 0) (80 + q) 6 0) (80 + q) 10 0) (80 + q) 11 0) (80 + q) 8 hr) (80 + q) 7 0) (80 + q) 9 (-10))) ∧ (u.2 = τ) ∧ (2 ≤ sa.toInt ∧ sa.toInt ≤ 12 ∧ 1 ≤ ra.toInt ∧ ra.toInt ≤ 12) ∧ (0 ≤ pl.toInt) ∧ (pl.toInt < 24))
set_option maxRecDepth 100000 in
set_option maxHeartbeats 4000000 in
theorem c_X5_layClock (l : Launch) {G : Gx} {A : Nat → Prop} (hG : GOk G A) (σ : SI) (τ : SL) (pl : Int32) (q : Nat) (hp_q : pl.toInt.toNat = q) (ka : Int32) (sa : Int32) (ra : Int32) (hr : Int32) : MI l G A 2 yX5_layClock cX5_layClock 6 (some .boolean) [.ref (G.2.1 1), .int pl, .int ka, .int sa, .int ra, .int hr] (σ, τ) (po_X5_layClock σ τ pl q ka sa ra hr) := by
  refine met_of (own := RX5) (by decide +kernel) rfl [(0, .ref (G.2.1 1)), (1, .int pl), (2, .int ka), (3, .int sa), (4, .int ra), (5, .int hr)] rfl (Nat.le_of_ble_eq_true rfl) ?_
  intro p e s m args below meth c ls hC hK hR hl
  have hS : va_S A s.heap s.heap [] := va_S.rf
  refine lv_iload_n hC.x hC.b dX5_layClock_0 rfl (lv_at hl 3 rfl) ?_
  refine lv_iconst (v := 2) hC.x hC.b dX5_layClock_1 (by decide) ?_
  refine bi_lt (tgt := 24) (a := sa.toInt) (b := 2) hC.x hC.b rfl rfl dX5_layClock_2 (by decide) (fun c_1 => ?_) (fun c_1 => ?_)
  · skip
    refine lv_iconst (v := 0) hC.x hC.b dX5_layClock_24 (by decide) ?_
    exact retz hC hK hR hS (Or.inl rfl) (by first | exact Or.inl (⟨by first | rfl | omega, by first | rfl | assumption, by rfl, by first | omega | assumption⟩) | exact False.elim (by omega)) dX5_layClock_25
  · skip
    refine lv_iload_n hC.x hC.b dX5_layClock_5 rfl (lv_at hl 3 rfl) ?_
    refine lv_bipush (v := 12) hC.x hC.b dX5_layClock_6 (by decide) ?_
    refine bi_gt (tgt := 24) (a := sa.toInt) (b := 12) hC.x hC.b rfl rfl dX5_layClock_8 (by decide) (fun c_2 => ?_) (fun c_2 => ?_)
    · skip
      refine lv_iconst (v := 0) hC.x hC.b dX5_layClock_24 (by decide) ?_
      exact retz hC hK hR hS (Or.inl rfl) (by first | exact Or.inl (⟨by first | rfl | omega, by first | rfl | assumption, by rfl, by first | omega | assumption⟩) | exact False.elim (by omega)) dX5_layClock_25
    · skip
      refine lv_iload hC.x hC.b dX5_layClock_11 (lv_at hl 4 rfl) ?_
      refine lv_iconst (v := 1) hC.x hC.b dX5_layClock_13 (by decide) ?_
      refine bi_lt (tgt := 24) (a := ra.toInt) (b := 1) hC.x hC.b rfl rfl dX5_layClock_14 (by decide) (fun c_3 => ?_) (fun c_3 => ?_)
      · skip
        refine lv_iconst (v := 0) hC.x hC.b dX5_layClock_24 (by decide) ?_
        exact retz hC hK hR hS (Or.inl rfl) (by first | exact Or.inl (⟨by first | rfl | omega, by first | rfl | assumption, by rfl, by first | omega | assumption⟩) | exact False.elim (by omega)) dX5_layClock_25
      · skip
        refine lv_iload hC.x hC.b dX5_layClock_17 (lv_at hl 4 rfl) ?_
        refine lv_bipush (v := 12) hC.x hC.b dX5_layClock_19 (by decide) ?_
        refine bi_le (tgt := 26) (a := ra.toInt) (b := 12) hC.x hC.b rfl rfl dX5_layClock_21 (by decide) (fun c_4 => ?_) (fun c_4 => ?_)
        · skip
          refine lv_iload_n hC.x hC.b dX5_layClock_26 rfl (lv_at hl 1 rfl) ?_
          refine bz_lt (tgt := 57) (a := pl.toInt) (b := 0) hC.x hC.b rfl rfl dX5_layClock_27 (by decide) (fun c_5 => ?_) (fun c_5 => ?_)
          · skip
            refine lv_iconst (v := 0) hC.x hC.b dX5_layClock_57 (by decide) ?_
            exact retz hC hK hR hS (Or.inl rfl) (by first | exact Or.inl (⟨by first | rfl | omega, by first | rfl | assumption, by rfl, by first | omega | assumption⟩) | exact False.elim (by omega)) dX5_layClock_58
          · skip
            refine lv_iload_n hC.x hC.b dX5_layClock_30 rfl (lv_at hl 1 rfl) ?_
            refine lv_aload_n hC.x hC.b dX5_layClock_31 rfl (lv_at hl 0 rfl) ?_
            refine rget hC hK hR (ct_shelf G _ _) rfl uin_X5 0 (by decide) TF_X5_9 rfl dX5_layClock_32 ?_
            refine ralen (t := 0) hC hK hR (by decide) (ct_kinds G _ _) (v := 24) rfl dX5_layClock_35 ?_
            refine bi_ge (tgt := 57) (a := pl.toInt) (b := 24) hC.x hC.b rfl rfl dX5_layClock_36 (by decide) (fun c_6 => ?_) (fun c_6 => ?_)
            · skip
              refine lv_iconst (v := 0) hC.x hC.b dX5_layClock_57 (by decide) ?_
              exact retz hC hK hR hS (Or.inl rfl) (by first | exact Or.inl (⟨by first | rfl | omega, by first | rfl | assumption, by rfl, by first | omega | assumption⟩) | exact False.elim (by omega)) dX5_layClock_58
            · skip
              refine lv_iload_n hC.x hC.b dX5_layClock_39 rfl (lv_at hl 1 rfl) ?_
              refine lv_aload_n hC.x hC.b dX5_layClock_40 rfl (lv_at hl 0 rfl) ?_
              refine rget hC hK hR (ct_shelf G _ _) rfl uin_X5 1 (by decide) TF_X5_17 rfl dX5_layClock_41 ?_
              refine ralen (t := 2) hC hK hR (by decide) (ct_clocks G _ _) (v := 24) rfl dX5_layClock_44 ?_
              refine bi_ge (tgt := 57) (a := pl.toInt) (b := 24) hC.x hC.b rfl rfl dX5_layClock_45 (by decide) (fun c_7 => ?_) (fun c_7 => ?_)
              · skip
                refine lv_iconst (v := 0) hC.x hC.b dX5_layClock_57 (by decide) ?_
                exact retz hC hK hR hS (Or.inl rfl) (by first | exact Or.inl (⟨by first | rfl | omega, by first | rfl | assumption, by rfl, by first | omega | assumption⟩) | exact False.elim (by omega)) dX5_layClock_58
              · skip
                refine lv_aload_n hC.x hC.b dX5_layClock_48 rfl (lv_at hl 0 rfl) ?_
                refine rget hC hK hR (ct_shelf G _ _) rfl uin_X5 1 (by decide) TF_X5_17 rfl dX5_layClock_49 ?_
                refine lv_iload_n hC.x hC.b dX5_layClock_52 rfl (lv_at hl 1 rfl) ?_
                have hq_8 : q < 24 := by omega
                refine aald (t0 := 2) hC hK hR (by decide) rfl (ct_clocks G _ _) rfl (by omega) (by omega) hp_q dX5_layClock_53 ?_
                refine lv_ifnonnull (tgt := 59) hC.x hC.b dX5_layClock_54 (by decide) ?_
                refine lv_aload_n hC.x hC.b dX5_layClock_59 rfl (lv_at hl 0 rfl) ?_
                refine rget hC hK hR (ct_shelf G _ _) rfl uin_X5 0 (by decide) TF_X5_9 rfl dX5_layClock_60 ?_
                refine lv_iload_n hC.x hC.b dX5_layClock_63 rfl (lv_at hl 1 rfl) ?_
                refine lv_iload_n hC.x hC.b dX5_layClock_64 rfl (lv_at hl 2 rfl) ?_
                refine ast hC hK hG hR hS (fun _ => ct_kinds G _ _) rfl (by omega) (by omega) hp_q dX5_layClock_65 (fun s_9 es_10 H locs hR hS => ?_)
                refine lv_aload_n hC.x hC.b dX5_layClock_66 rfl (lv_at hl 0 rfl) ?_
                refine rget hC hK hR (ct_shelf G _ _) rfl uin_X5 1 (by decide) TF_X5_17 rfl dX5_layClock_67 ?_
                refine lv_iload_n hC.x hC.b dX5_layClock_70 rfl (lv_at hl 1 rfl) ?_
                have hq_11 : q < 24 := by omega
                refine aald (t0 := 2) hC hK hR (by decide) rfl (ct_clocks G _ _) rfl (by omega) (by omega) hp_q dX5_layClock_71 ?_
                refine lv_iload_n hC.x hC.b dX5_layClock_72 rfl (lv_at hl 2 rfl) ?_
                refine lv_iload_n hC.x hC.b dX5_layClock_73 rfl (lv_at hl 3 rfl) ?_
                refine lv_iload hC.x hC.b dX5_layClock_74 (lv_at hl 4 rfl) ?_
                refine lv_iload hC.x hC.b dX5_layClock_76 (lv_at hl 5 rfl) ?_
                refine gov (runV (As := [.int ka, .int sa, .int ra, .int hr]) (rest := []) hC hK hR hl.1 (c_X0_lay l hG s_9 τ q hq_11 ka sa ra hr ) (call_b hC.ts TC_X0_lay TN_X0 TM_X5_42 hd_X0_lay ⟨Nat.le_of_ble_eq_true rfl, Nat.le_of_ble_eq_true rfl⟩) TI_X0_lay TS_X0_lay (ct_clock hq_11 G _ _) rfl rfl rfl (Nat.le_of_ble_eq_true rfl) dX5_layClock_78 ⟨Nat.le_of_ble_eq_true rfl, Nat.le_of_ble_eq_true rfl⟩) hS (fun s_14 t_15 H locs w_13 hR hS => ?_)
                try dsimp only [po_X0_lay] at w_13
                obtain ⟨es_16, et_17⟩ := w_13
                rw [et_17] at hR
                refine lv_iconst (v := 1) hC.x hC.b dX5_layClock_81 (by decide) ?_
                exact retz hC hK hR hS (Or.inr rfl) (by first | exact Or.inr ((⟨by subst es_16; subst es_10; (first | rfl | omega), by subst es_16; subst es_10; (first | rfl | assumption), by subst es_16; subst es_10; (rfl), by subst es_16; subst es_10; (first | omega | assumption), by subst es_16; subst es_10; (first | omega | assumption), by subst es_16; subst es_10; (first | omega | assumption)⟩)) | exact False.elim (by omega)) dX5_layClock_82
        · skip
          refine lv_iconst (v := 0) hC.x hC.b dX5_layClock_24 (by decide) ?_
          exact retz hC hK hR hS (Or.inl rfl) (by first | exact Or.inl (⟨by first | rfl | omega, by first | rfl | assumption, by rfl, by first | omega | assumption⟩) | exact False.elim (by omega)) dX5_layClock_25

abbrev po_X5_hasLinkOf (σ : SI) (τ : SL) (pl : Int32) (q : Nat) : Int32 → SI × SL → Prop := fun v u => u = (σ, τ) ∧ (((v = (1)) ∧ (hasLk σ pl) ∧ (0 ≤ pl.toInt) ∧ (pl.toInt < 24) ∧ (0 ≤ (σ 2 q).toInt) ∧ ((σ 2 q).toInt ≤ 3)) ∨ ((v = (0)) ∧ (¬ hasLk σ pl ∨ ¬ (0 ≤ pl.toInt ∧ pl.toInt < 24 ∧ 0 ≤ (σ 2 q).toInt ∧ (σ 2 q).toInt ≤ 3))))
set_option maxRecDepth 100000 in
set_option maxHeartbeats 4000000 in
theorem c_X5_hasLinkOf (l : Launch) {G : Gx} {A : Nat → Prop} (hG : GOk G A) (σ : SI) (τ : SL) (pl : Int32) (q : Nat) (hp_q : pl.toInt.toNat = q) : MI l G A 2 yX5_hasLinkOf cX5_hasLinkOf 4 (some .boolean) [.ref (G.2.1 1), .int pl] (σ, τ) (po_X5_hasLinkOf σ τ pl q) := by
  refine met_of (own := RX5) (by decide +kernel) rfl [(0, .ref (G.2.1 1)), (1, .int pl)] rfl (Nat.le_of_ble_eq_true rfl) ?_
  intro p e s m args below meth c ls hC hK hR hl
  have hS : va_S A s.heap s.heap [] := va_S.rf
  refine lv_aload_n hC.x hC.b dX5_hasLinkOf_0 rfl (lv_at hl 0 rfl) ?_
  refine lv_iload_n hC.x hC.b dX5_hasLinkOf_1 rfl (lv_at hl 1 rfl) ?_
  refine goqp (runV (As := [.int pl]) (rest := []) hC hK hR hl.1 (c_X5_clockAt l hG σ τ pl q (by first | rfl | (rw [show pl.toInt = pl.toInt from rfl]; done) | (rw [show pl.toInt = pl.toInt from rfl]; exact hp_q)) ) (call_b hC.ts TC_X5_clockAt TN_X5 TM_X5_46 hd_X5_clockAt ⟨Nat.le_of_ble_eq_true rfl, Nat.le_of_ble_eq_true rfl⟩) TI_X5_clockAt TS_X5_clockAt (ct_shelf G _ _) rfl rfl rfl (Nat.le_of_ble_eq_true rfl) dX5_hasLinkOf_2 ⟨Nat.le_of_ble_eq_true rfl, Nat.le_of_ble_eq_true rfl⟩) hS (fun v_1 H locs w_2 hR hS => ?_)
  rcases w_2 with ⟨rfl, f_3⟩ | ⟨rfl, f_4, f_5, f_6, f_7⟩
  · skip
    refine lv_ifnonnullN hC.x hC.b dX5_hasLinkOf_5 ?_
    refine lv_iconst (v := 0) hC.x hC.b dX5_hasLinkOf_8 (by decide) ?_
    exact retz hC hK hR hS (Or.inl rfl) ⟨rfl, (by first | exact Or.inr ((⟨by first | rfl | omega, by first | (right; omega) | (left; rintro ⟨j, h1, h2, h3, h4⟩; exact hi1_12 j (by omega) ⟨h2, h3, h4⟩)⟩)) | exact False.elim (by omega))⟩ dX5_hasLinkOf_9
  · skip
    have hq_8 : q < 24 := by omega
    refine lv_ifnonnull (tgt := 10) hC.x hC.b dX5_hasLinkOf_5 (by decide) ?_
    refine lv_iconst (v := 0) hC.x hC.b dX5_hasLinkOf_10 (by decide) ?_
    refine lv_istore_n (lv' := [(2, .int (0 : Int32)), (0, .ref (G.2.1 1)), (1, .int pl)]) hC.x hC.b dX5_hasLinkOf_11 rfl hl (by decide) rfl (fun ls hl => ?_)
    have L_12 : ∀ (F : Nat) (n : Nat), (24 - n) < F → (n ≤ 24) → (∀ j, j < n → ¬ (4 ≤ (σ 2 j).toInt ∧ (σ 2 j).toInt ≤ 6 ∧ ((σ (104 + j) 1).toInt = pl.toInt ∨ (σ (104 + j) 2).toInt = pl.toInt))) → ∀ (H : Heap) (locs : List Loc) (ls : Array Slot), RepH G σ τ H → va_S A s.heap H locs → lv_has ls 4 [(0, .ref (G.2.1 1)), (1, .int pl), (2, .int (nI n))] → W p l e (rmD 2) s m args below meth c H locs 0 0 (MQ below (va_Qi (po_X5_hasLinkOf σ τ pl q) (BU G) A) args s 0 0 A) (F0 m 12 ls []) := by
      intro F
      induction F with
      | zero => intro n hm; exact absurd hm (Nat.not_lt_zero _)
      | succ F ih_12 =>
        intro n hm_12 hi0_12 hi1_12 H locs ls hR hS hl
        have hnI := nI_T n (by omega)
        refine lv_iload_n hC.x hC.b dX5_hasLinkOf_12 rfl (lv_at hl 2 rfl) ?_
        refine lv_bipush (v := 24) hC.x hC.b dX5_hasLinkOf_13 (by decide) ?_
        refine bi_ge (tgt := 52) (a := (n : Int)) (b := 24) hC.x hC.b (nI_T n (by omega)) rfl dX5_hasLinkOf_15 (by decide) (fun c_9 => ?_) (fun c_9 => ?_)
        · skip
          refine lv_iconst (v := 0) hC.x hC.b dX5_hasLinkOf_52 (by decide) ?_
          exact retz hC hK hR hS (Or.inl rfl) ⟨rfl, (by first | exact Or.inr ((⟨by first | rfl | omega, by first | (right; omega) | (left; rintro ⟨j, h1, h2, h3, h4⟩; exact hi1_12 j (by omega) ⟨h2, h3, h4⟩)⟩)) | exact False.elim (by omega))⟩ dX5_hasLinkOf_53
        · skip
          refine lv_aload_n hC.x hC.b dX5_hasLinkOf_18 rfl (lv_at hl 0 rfl) ?_
          refine lv_iload_n hC.x hC.b dX5_hasLinkOf_19 rfl (lv_at hl 2 rfl) ?_
          have av_10 : (nI n).toInt = (n : Int) := (nI_T n (by omega))
          refine goqp (runV (As := [.int (nI n)]) (rest := []) hC hK hR hl.1 (c_X5_linkAt l hG σ τ (nI n) n (by first | rfl | (rw [show (nI n).toInt = (n : Int) from (nI_T n (by omega))]; done) | (rw [show (nI n).toInt = (n : Int) from (nI_T n (by omega))]; exact (Int.toNat_natCast _))) ) (call_b hC.ts TC_X5_linkAt TN_X5 TM_X5_53 hd_X5_linkAt ⟨Nat.le_of_ble_eq_true rfl, Nat.le_of_ble_eq_true rfl⟩) TI_X5_linkAt TS_X5_linkAt (ct_shelf G _ _) rfl rfl rfl (Nat.le_of_ble_eq_true rfl) dX5_hasLinkOf_20 ⟨Nat.le_of_ble_eq_true rfl, Nat.le_of_ble_eq_true rfl⟩) hS (fun v_11 H locs w_12 hR hS => ?_)
          rcases w_12 with ⟨rfl, f_13⟩ | ⟨rfl, f_14, f_15, f_16, f_17⟩
          · skip
            refine lv_astore_nN (lv' := [(3, .null), (0, .ref (G.2.1 1)), (1, .int pl), (2, .int (nI n))]) hC.x hC.b dX5_hasLinkOf_23 rfl hl (by decide) rfl (fun ls hl => ?_)
            refine lv_aload_nN hC.x hC.b dX5_hasLinkOf_24 rfl (lv_at hl 0 rfl) ?_
            refine lv_ifnullN (tgt := 46) hC.x hC.b dX5_hasLinkOf_25 (by decide) ?_
            refine lv_iinc (v := nI (n + 1)) (lv' := [(2, .int (nI (n + 1))), (3, .null), (0, .ref (G.2.1 1)), (1, .int pl)]) hC.x hC.b dX5_hasLinkOf_46 hl (k := 3) rfl (nI_succ _).symm (by decide) rfl (fun ls hl => ?_)
            refine lv_goto (tgt := 12) hC.x hC.b dX5_hasLinkOf_49 (by decide) ?_
            exact ih_12 (n + 1) (by omega) (by first | omega | assumption) (by intro j hj; by_cases e9 : j = n; (subst e9; omega); exact hi1_12 j (by omega)) _ _ _ hR hS (lv_sub hl [2, 3, 0] rfl)
          · skip
            have hq_18 : n < 24 := by omega
            refine lv_astore_n (lv' := [(3, .ref (G.2.1 (104 + n))), (0, .ref (G.2.1 1)), (1, .int pl), (2, .int (nI n))]) hC.x hC.b dX5_hasLinkOf_23 rfl hl (by decide) rfl (fun ls hl => ?_)
            refine lv_aload_n hC.x hC.b dX5_hasLinkOf_24 rfl (lv_at hl 0 rfl) ?_
            refine lv_ifnull hC.x hC.b dX5_hasLinkOf_25 ?_
            refine lv_aload_n hC.x hC.b dX5_hasLinkOf_28 rfl (lv_at hl 0 rfl) ?_
            refine rget hC hK hR (ct_link hq_18 G _ _) rfl uin_X4 1 (by decide) TF_X5_57 rfl dX5_hasLinkOf_29 ?_
            refine lv_iload_n hC.x hC.b dX5_hasLinkOf_32 rfl (lv_at hl 2 rfl) ?_
            refine bi_eq (tgt := 44) (a := (σ (104 + n) 1).toInt) (b := pl.toInt) hC.x hC.b rfl rfl dX5_hasLinkOf_33 (by decide) (fun c_19 => ?_) (fun c_19 => ?_)
            · skip
              refine lv_iconst (v := 1) hC.x hC.b dX5_hasLinkOf_44 (by decide) ?_
              exact retz hC hK hR hS (Or.inr rfl) ⟨rfl, (by first | exact Or.inl (⟨by first | rfl | omega, by exact ⟨n, by omega, by omega, by omega, by omega⟩, by first | omega | assumption, by first | omega | assumption, by first | omega | assumption, by first | omega | assumption⟩) | exact False.elim (by omega))⟩ dX5_hasLinkOf_45
            · skip
              refine lv_aload_n hC.x hC.b dX5_hasLinkOf_36 rfl (lv_at hl 0 rfl) ?_
              refine rget hC hK hR (ct_link hq_18 G _ _) rfl uin_X4 2 (by decide) TF_X5_61 rfl dX5_hasLinkOf_37 ?_
              refine lv_iload_n hC.x hC.b dX5_hasLinkOf_40 rfl (lv_at hl 2 rfl) ?_
              refine bi_ne (tgt := 46) (a := (σ (104 + n) 2).toInt) (b := pl.toInt) hC.x hC.b rfl rfl dX5_hasLinkOf_41 (by decide) (fun c_20 => ?_) (fun c_20 => ?_)
              · skip
                refine lv_iinc (v := nI (n + 1)) (lv' := [(2, .int (nI (n + 1))), (3, .ref (G.2.1 (104 + n))), (0, .ref (G.2.1 1)), (1, .int pl)]) hC.x hC.b dX5_hasLinkOf_46 hl (k := 3) rfl (nI_succ _).symm (by decide) rfl (fun ls hl => ?_)
                refine lv_goto (tgt := 12) hC.x hC.b dX5_hasLinkOf_49 (by decide) ?_
                exact ih_12 (n + 1) (by omega) (by first | omega | assumption) (by intro j hj; by_cases e9 : j = n; (subst e9; omega); exact hi1_12 j (by omega)) _ _ _ hR hS (lv_sub hl [2, 3, 0] rfl)
              · skip
                refine lv_iconst (v := 1) hC.x hC.b dX5_hasLinkOf_44 (by decide) ?_
                exact retz hC hK hR hS (Or.inr rfl) ⟨rfl, (by first | exact Or.inl (⟨by first | rfl | omega, by exact ⟨n, by omega, by omega, by omega, by omega⟩, by first | omega | assumption, by first | omega | assumption, by first | omega | assumption, by first | omega | assumption⟩) | exact False.elim (by omega))⟩ dX5_hasLinkOf_45
    exact L_12 _ 0 (Nat.lt_succ_self _) (by first | omega | assumption) (by intro j hj; omega) _ _ _ hR hS (lv_sub hl [1, 2, 0] rfl)

abbrev po_X5_toldBetween (σ : SI) (τ : SL) (xa : Int32) (ya : Int32) (hr : Int32) : Int32 → SI × SL → Prop := fun v u => u = (σ, τ) ∧ (True)
set_option maxRecDepth 100000 in
set_option maxHeartbeats 4000000 in
theorem c_X5_toldBetween (l : Launch) {G : Gx} {A : Nat → Prop} (hG : GOk G A) (σ : SI) (τ : SL) (xa : Int32) (ya : Int32) (hr : Int32) : MI l G A 2 yX5_toldBetween cX5_toldBetween 6 (some .int) [.ref (G.2.1 1), .int xa, .int ya, .int hr] (σ, τ) (po_X5_toldBetween σ τ xa ya hr) := by
  refine met_of (own := RX5) (by decide +kernel) rfl [(0, .ref (G.2.1 1)), (1, .int xa), (2, .int ya), (3, .int hr)] rfl (Nat.le_of_ble_eq_true rfl) ?_
  intro p e s m args below meth c ls hC hK hR hl
  have hS : va_S A s.heap s.heap [] := va_S.rf
  refine lv_iconst (v := 0) hC.x hC.b dX5_toldBetween_0 (by decide) ?_
  refine lv_istore (lv' := [(4, .int (0 : Int32)), (0, .ref (G.2.1 1)), (1, .int xa), (2, .int ya), (3, .int hr)]) hC.x hC.b dX5_toldBetween_1 hl (by decide) rfl (fun ls hl => ?_)
  have L_3 : ∀ (F : Nat) (n : Nat), (24 - n) < F → (n ≤ 24) → ∀ (H : Heap) (locs : List Loc) (ls : Array Slot), RepH G σ τ H → va_S A s.heap H locs → lv_has ls 6 [(0, .ref (G.2.1 1)), (1, .int xa), (2, .int ya), (3, .int hr), (4, .int (nI n))] → W p l e (rmD 2) s m args below meth c H locs 0 0 (MQ below (va_Qi (po_X5_toldBetween σ τ xa ya hr) (BU G) A) args s 0 0 A) (F0 m 3 ls []) := by
    intro F
    induction F with
    | zero => intro n hm; exact absurd hm (Nat.not_lt_zero _)
    | succ F ih_3 =>
      intro n hm_3 hi0_3 H locs ls hR hS hl
      refine lv_iload hC.x hC.b dX5_toldBetween_3 (lv_at hl 4 rfl) ?_
      refine lv_bipush (v := 24) hC.x hC.b dX5_toldBetween_5 (by decide) ?_
      refine bi_ge (tgt := 94) (a := (n : Int)) (b := 24) hC.x hC.b (nI_T n (by omega)) rfl dX5_toldBetween_7 (by decide) (fun c_1 => ?_) (fun c_1 => ?_)
      · skip
        refine lv_ldc hC.x hC.b hC.ow (hC.ts _ TK_X5_67) dX5_toldBetween_94 ?_
        exact reti hC hK hR hS ⟨rfl, (trivial)⟩ dX5_toldBetween_96
      · skip
        refine lv_aload_n hC.x hC.b dX5_toldBetween_10 rfl (lv_at hl 0 rfl) ?_
        refine lv_iload hC.x hC.b dX5_toldBetween_11 (lv_at hl 4 rfl) ?_
        have av_2 : (nI n).toInt = (n : Int) := (nI_T n (by omega))
        refine goqp (runV (As := [.int (nI n)]) (rest := []) hC hK hR hl.1 (c_X5_linkAt l hG σ τ (nI n) n (by first | rfl | (rw [show (nI n).toInt = (n : Int) from (nI_T n (by omega))]; done) | (rw [show (nI n).toInt = (n : Int) from (nI_T n (by omega))]; exact (Int.toNat_natCast _))) ) (call_b hC.ts TC_X5_linkAt TN_X5 TM_X5_53 hd_X5_linkAt ⟨Nat.le_of_ble_eq_true rfl, Nat.le_of_ble_eq_true rfl⟩) TI_X5_linkAt TS_X5_linkAt (ct_shelf G _ _) rfl rfl rfl (Nat.le_of_ble_eq_true rfl) dX5_toldBetween_13 ⟨Nat.le_of_ble_eq_true rfl, Nat.le_of_ble_eq_true rfl⟩) hS (fun v_3 H locs w_4 hR hS => ?_)
        rcases w_4 with ⟨rfl, f_5⟩ | ⟨rfl, f_6, f_7, f_8, f_9⟩
        · skip
          refine lv_astoreN (lv' := [(5, .null), (0, .ref (G.2.1 1)), (1, .int xa), (2, .int ya), (3, .int hr), (4, .int (nI n))]) hC.x hC.b dX5_toldBetween_16 hl (by decide) rfl (fun ls hl => ?_)
          refine lv_aloadN hC.x hC.b dX5_toldBetween_18 (lv_at hl 0 rfl) ?_
          refine lv_ifnullN (tgt := 88) hC.x hC.b dX5_toldBetween_20 (by decide) ?_
          refine lv_iinc (v := nI (n + 1)) (lv' := [(4, .int (nI (n + 1))), (5, .null), (0, .ref (G.2.1 1)), (1, .int xa), (2, .int ya), (3, .int hr)]) hC.x hC.b dX5_toldBetween_88 hl (k := 5) rfl (nI_succ _).symm (by decide) rfl (fun ls hl => ?_)
          refine lv_goto (tgt := 3) hC.x hC.b dX5_toldBetween_91 (by decide) ?_
          exact ih_3 (n + 1) (by omega) (by first | omega | assumption) _ _ _ hR hS (lv_sub hl [2, 3, 4, 5, 0] rfl)
        · skip
          have hq_10 : n < 24 := by omega
          refine lv_astore (lv' := [(5, .ref (G.2.1 (104 + n))), (0, .ref (G.2.1 1)), (1, .int xa), (2, .int ya), (3, .int hr), (4, .int (nI n))]) hC.x hC.b dX5_toldBetween_16 hl (by decide) rfl (fun ls hl => ?_)
          refine lv_aload hC.x hC.b dX5_toldBetween_18 (lv_at hl 0 rfl) ?_
          refine lv_ifnull hC.x hC.b dX5_toldBetween_20 ?_
          refine lv_aload hC.x hC.b dX5_toldBetween_23 (lv_at hl 0 rfl) ?_
          refine lv_iload_n hC.x hC.b dX5_toldBetween_25 rfl (lv_at hl 4 rfl) ?_
          refine goip (runV (As := [.int hr]) (rest := []) hC hK hR hl.1 (c_X4_toldAt l hG σ τ n hq_10 hr ) (call_b hC.ts TC_X4_toldAt TN_X4 TM_X5_64 hd_X4_toldAt ⟨Nat.le_of_ble_eq_true rfl, Nat.le_of_ble_eq_true rfl⟩) TI_X4_toldAt TS_X4_toldAt (ct_link hq_10 G _ _) rfl rfl rfl (Nat.le_of_ble_eq_true rfl) dX5_toldBetween_26 ⟨Nat.le_of_ble_eq_true rfl, Nat.le_of_ble_eq_true rfl⟩) hS (fun v_11 H locs w_12 hR hS => ?_)
          subst w_12
          refine lv_ldc hC.x hC.b hC.ow (hC.ts _ TK_X5_67) dX5_toldBetween_29 ?_
          refine bi_ne (tgt := 37) (a := (toldC σ n hr).toInt) (b := 1000000) hC.x hC.b rfl rfl dX5_toldBetween_31 (by decide) (fun c_13 => ?_) (fun c_13 => ?_)
          · skip
            refine lv_aload hC.x hC.b dX5_toldBetween_37 (lv_at hl 0 rfl) ?_
            refine rget hC hK hR (ct_link hq_10 G _ _) rfl uin_X4 1 (by decide) TF_X5_57 rfl dX5_toldBetween_39 ?_
            refine lv_iload_n hC.x hC.b dX5_toldBetween_42 rfl (lv_at hl 2 rfl) ?_
            refine bi_ne (tgt := 62) (a := (σ (104 + n) 1).toInt) (b := xa.toInt) hC.x hC.b rfl rfl dX5_toldBetween_43 (by decide) (fun c_14 => ?_) (fun c_14 => ?_)
            · skip
              refine lv_aload hC.x hC.b dX5_toldBetween_62 (lv_at hl 0 rfl) ?_
              refine rget hC hK hR (ct_link hq_10 G _ _) rfl uin_X4 1 (by decide) TF_X5_57 rfl dX5_toldBetween_64 ?_
              refine lv_iload_n hC.x hC.b dX5_toldBetween_67 rfl (lv_at hl 3 rfl) ?_
              refine bi_ne (tgt := 88) (a := (σ (104 + n) 1).toInt) (b := ya.toInt) hC.x hC.b rfl rfl dX5_toldBetween_68 (by decide) (fun c_15 => ?_) (fun c_15 => ?_)
              · skip
                refine lv_iinc (v := nI (n + 1)) (lv' := [(4, .int (nI (n + 1))), (5, .ref (G.2.1 (104 + n))), (0, .ref (G.2.1 1)), (1, .int xa), (2, .int ya), (3, .int hr)]) hC.x hC.b dX5_toldBetween_88 hl (k := 5) rfl (nI_succ _).symm (by decide) rfl (fun ls hl => ?_)
                refine lv_goto (tgt := 3) hC.x hC.b dX5_toldBetween_91 (by decide) ?_
                exact ih_3 (n + 1) (by omega) (by first | omega | assumption) _ _ _ hR hS (lv_sub hl [2, 3, 4, 5, 0] rfl)
              · skip
                refine lv_aload hC.x hC.b dX5_toldBetween_71 (lv_at hl 0 rfl) ?_
                refine rget hC hK hR (ct_link hq_10 G _ _) rfl uin_X4 2 (by decide) TF_X5_61 rfl dX5_toldBetween_73 ?_
                refine lv_iload_n hC.x hC.b dX5_toldBetween_76 rfl (lv_at hl 2 rfl) ?_
                refine bi_ne (tgt := 88) (a := (σ (104 + n) 2).toInt) (b := xa.toInt) hC.x hC.b rfl rfl dX5_toldBetween_77 (by decide) (fun c_16 => ?_) (fun c_16 => ?_)
                · skip
                  refine lv_iinc (v := nI (n + 1)) (lv' := [(4, .int (nI (n + 1))), (5, .ref (G.2.1 (104 + n))), (0, .ref (G.2.1 1)), (1, .int xa), (2, .int ya), (3, .int hr)]) hC.x hC.b dX5_toldBetween_88 hl (k := 5) rfl (nI_succ _).symm (by decide) rfl (fun ls hl => ?_)
                  refine lv_goto (tgt := 3) hC.x hC.b dX5_toldBetween_91 (by decide) ?_
                  exact ih_3 (n + 1) (by omega) (by first | omega | assumption) _ _ _ hR hS (lv_sub hl [2, 3, 4, 5, 0] rfl)
                · skip
                  refine lv_aload hC.x hC.b dX5_toldBetween_80 (lv_at hl 0 rfl) ?_
                  refine lv_iload_n hC.x hC.b dX5_toldBetween_82 rfl (lv_at hl 4 rfl) ?_
                  refine goip (runV (As := [.int hr]) (rest := []) hC hK hR hl.1 (c_X4_toldAt l hG σ τ n hq_10 hr ) (call_b hC.ts TC_X4_toldAt TN_X4 TM_X5_64 hd_X4_toldAt ⟨Nat.le_of_ble_eq_true rfl, Nat.le_of_ble_eq_true rfl⟩) TI_X4_toldAt TS_X4_toldAt (ct_link hq_10 G _ _) rfl rfl rfl (Nat.le_of_ble_eq_true rfl) dX5_toldBetween_83 ⟨Nat.le_of_ble_eq_true rfl, Nat.le_of_ble_eq_true rfl⟩) hS (fun v_17 H locs w_18 hR hS => ?_)
                  subst w_18
                  refine lv_ineg hC.x hC.b dX5_toldBetween_86 ?_
                  exact reti hC hK hR hS ⟨rfl, (trivial)⟩ dX5_toldBetween_87
            · skip
              refine lv_aload hC.x hC.b dX5_toldBetween_46 (lv_at hl 0 rfl) ?_
              refine rget hC hK hR (ct_link hq_10 G _ _) rfl uin_X4 2 (by decide) TF_X5_61 rfl dX5_toldBetween_48 ?_
              refine lv_iload_n hC.x hC.b dX5_toldBetween_51 rfl (lv_at hl 3 rfl) ?_
              refine bi_ne (tgt := 62) (a := (σ (104 + n) 2).toInt) (b := ya.toInt) hC.x hC.b rfl rfl dX5_toldBetween_52 (by decide) (fun c_19 => ?_) (fun c_19 => ?_)
              · skip
                refine lv_aload hC.x hC.b dX5_toldBetween_62 (lv_at hl 0 rfl) ?_
                refine rget hC hK hR (ct_link hq_10 G _ _) rfl uin_X4 1 (by decide) TF_X5_57 rfl dX5_toldBetween_64 ?_
                refine lv_iload_n hC.x hC.b dX5_toldBetween_67 rfl (lv_at hl 3 rfl) ?_
                refine bi_ne (tgt := 88) (a := (σ (104 + n) 1).toInt) (b := ya.toInt) hC.x hC.b rfl rfl dX5_toldBetween_68 (by decide) (fun c_20 => ?_) (fun c_20 => ?_)
                · skip
                  refine lv_iinc (v := nI (n + 1)) (lv' := [(4, .int (nI (n + 1))), (5, .ref (G.2.1 (104 + n))), (0, .ref (G.2.1 1)), (1, .int xa), (2, .int ya), (3, .int hr)]) hC.x hC.b dX5_toldBetween_88 hl (k := 5) rfl (nI_succ _).symm (by decide) rfl (fun ls hl => ?_)
                  refine lv_goto (tgt := 3) hC.x hC.b dX5_toldBetween_91 (by decide) ?_
                  exact ih_3 (n + 1) (by omega) (by first | omega | assumption) _ _ _ hR hS (lv_sub hl [2, 3, 4, 5, 0] rfl)
                · skip
                  refine lv_aload hC.x hC.b dX5_toldBetween_71 (lv_at hl 0 rfl) ?_
                  refine rget hC hK hR (ct_link hq_10 G _ _) rfl uin_X4 2 (by decide) TF_X5_61 rfl dX5_toldBetween_73 ?_
                  refine lv_iload_n hC.x hC.b dX5_toldBetween_76 rfl (lv_at hl 2 rfl) ?_
                  refine bi_ne (tgt := 88) (a := (σ (104 + n) 2).toInt) (b := xa.toInt) hC.x hC.b rfl rfl dX5_toldBetween_77 (by decide) (fun c_21 => ?_) (fun c_21 => ?_)
                  · skip
                    refine lv_iinc (v := nI (n + 1)) (lv' := [(4, .int (nI (n + 1))), (5, .ref (G.2.1 (104 + n))), (0, .ref (G.2.1 1)), (1, .int xa), (2, .int ya), (3, .int hr)]) hC.x hC.b dX5_toldBetween_88 hl (k := 5) rfl (nI_succ _).symm (by decide) rfl (fun ls hl => ?_)
                    refine lv_goto (tgt := 3) hC.x hC.b dX5_toldBetween_91 (by decide) ?_
                    exact ih_3 (n + 1) (by omega) (by first | omega | assumption) _ _ _ hR hS (lv_sub hl [2, 3, 4, 5, 0] rfl)
                  · skip
                    refine lv_aload hC.x hC.b dX5_toldBetween_80 (lv_at hl 0 rfl) ?_
                    refine lv_iload_n hC.x hC.b dX5_toldBetween_82 rfl (lv_at hl 4 rfl) ?_
                    refine goip (runV (As := [.int hr]) (rest := []) hC hK hR hl.1 (c_X4_toldAt l hG σ τ n hq_10 hr ) (call_b hC.ts TC_X4_toldAt TN_X4 TM_X5_64 hd_X4_toldAt ⟨Nat.le_of_ble_eq_true rfl, Nat.le_of_ble_eq_true rfl⟩) TI_X4_toldAt TS_X4_toldAt (ct_link hq_10 G _ _) rfl rfl rfl (Nat.le_of_ble_eq_true rfl) dX5_toldBetween_83 ⟨Nat.le_of_ble_eq_true rfl, Nat.le_of_ble_eq_true rfl⟩) hS (fun v_22 H locs w_23 hR hS => ?_)
                    subst w_23
                    refine lv_ineg hC.x hC.b dX5_toldBetween_86 ?_
                    exact reti hC hK hR hS ⟨rfl, (trivial)⟩ dX5_toldBetween_87
              · skip
                refine lv_aload hC.x hC.b dX5_toldBetween_55 (lv_at hl 0 rfl) ?_
                refine lv_iload_n hC.x hC.b dX5_toldBetween_57 rfl (lv_at hl 4 rfl) ?_
                refine goip (runV (As := [.int hr]) (rest := []) hC hK hR hl.1 (c_X4_toldAt l hG σ τ n hq_10 hr ) (call_b hC.ts TC_X4_toldAt TN_X4 TM_X5_64 hd_X4_toldAt ⟨Nat.le_of_ble_eq_true rfl, Nat.le_of_ble_eq_true rfl⟩) TI_X4_toldAt TS_X4_toldAt (ct_link hq_10 G _ _) rfl rfl rfl (Nat.le_of_ble_eq_true rfl) dX5_toldBetween_58 ⟨Nat.le_of_ble_eq_true rfl, Nat.le_of_ble_eq_true rfl⟩) hS (fun v_24 H locs w_25 hR hS => ?_)
                subst w_25
                exact reti hC hK hR hS ⟨rfl, (trivial)⟩ dX5_toldBetween_61
          · skip
            refine lv_goto (tgt := 88) hC.x hC.b dX5_toldBetween_34 (by decide) ?_
            refine lv_iinc (v := nI (n + 1)) (lv' := [(4, .int (nI (n + 1))), (5, .ref (G.2.1 (104 + n))), (0, .ref (G.2.1 1)), (1, .int xa), (2, .int ya), (3, .int hr)]) hC.x hC.b dX5_toldBetween_88 hl (k := 5) rfl (nI_succ _).symm (by decide) rfl (fun ls hl => ?_)
            refine lv_goto (tgt := 3) hC.x hC.b dX5_toldBetween_91 (by decide) ?_
            exact ih_3 (n + 1) (by omega) (by first | omega | assumption) _ _ _ hR hS (lv_sub hl [2, 3, 4, 5, 0] rfl)
  exact L_3 _ 0 (Nat.lt_succ_self _) (by first | omega | assumption) _ _ _ hR hS (lv_sub hl [1, 2, 3, 4, 0] rfl)

abbrev po_X5_layLink (σ : SI) (τ : SL) (pl : Int32) (q : Nat) (ka : Int32) (fa : Int32) (fq : Nat) (sa : Int32) (sq : Nat) : Int32 → SI × SL → Prop := fun v u => ((v = (0)) ∧ (u.1 = σ) ∧ (u.2 = τ) ∧ (fa.toInt = sa.toInt ∨ ¬ (0 ≤ fa.toInt ∧ fa.toInt < 24 ∧ 0 ≤ (σ 2 fq).toInt ∧ (σ 2 fq).toInt ≤ 3) ∨ ¬ (0 ≤ sa.toInt ∧ sa.toInt < 24 ∧ 0 ≤ (σ 2 sq).toInt ∧ (σ 2 sq).toInt ≤ 3) ∨ ¬ (0 ≤ pl.toInt ∧ pl.toInt < 24))) ∨ ((v = (1)) ∧ (u.2 = τ) ∧ (Torn (up2 (up2 (up2 (up2 (up2 σ 2 q ka) (104 + q) 0 ka) (104 + q) 1 fa) (104 + q) 2 sa) (104 + q) 3 0) u.1 q) ∧ (fa.toInt ≠ sa.toInt) ∧ (0 ≤ fa.toInt) ∧ (fa.toInt < 24) ∧ (0 ≤ (σ 2 fq).toInt) ∧ ((σ 2 fq).toInt ≤ 3) ∧ (0 ≤ sa.toInt) ∧ (sa.toInt < 24) ∧ (0 ≤ (σ 2 sq).toInt) ∧ ((σ 2 sq).toInt ≤ 3) ∧ (0 ≤ pl.toInt) ∧ (pl.toInt < 24))
set_option maxRecDepth 100000 in
set_option maxHeartbeats 4000000 in
theorem c_X5_layLink (l : Launch) {G : Gx} {A : Nat → Prop} (hG : GOk G A) (σ : SI) (τ : SL) (pl : Int32) (q : Nat) (hp_q : pl.toInt.toNat = q) (ka : Int32) (fa : Int32) (fq : Nat) (hp_fq : fa.toInt.toNat = fq) (sa : Int32) (sq : Nat) (hp_sq : sa.toInt.toNat = sq) : MI l G A 2 yX5_layLink cX5_layLink 5 (some .boolean) [.ref (G.2.1 1), .int pl, .int ka, .int fa, .int sa] (σ, τ) (po_X5_layLink σ τ pl q ka fa fq sa sq) := by
  refine met_of (own := RX5) (by decide +kernel) rfl [(0, .ref (G.2.1 1)), (1, .int pl), (2, .int ka), (3, .int fa), (4, .int sa)] rfl (Nat.le_of_ble_eq_true rfl) ?_
  intro p e s m args below meth c ls hC hK hR hl
  have hS : va_S A s.heap s.heap [] := va_S.rf
  refine lv_iload_n hC.x hC.b dX5_layLink_0 rfl (lv_at hl 3 rfl) ?_
  refine lv_iload hC.x hC.b dX5_layLink_1 (lv_at hl 4 rfl) ?_
  refine bi_eq (tgt := 23) (a := fa.toInt) (b := sa.toInt) hC.x hC.b rfl rfl dX5_layLink_3 (by decide) (fun c_1 => ?_) (fun c_1 => ?_)
  · skip
    refine lv_iconst (v := 0) hC.x hC.b dX5_layLink_23 (by decide) ?_
    exact retz hC hK hR hS (Or.inl rfl) (by first | exact Or.inl (⟨by first | rfl | omega, by first | rfl | assumption, by rfl, by first | omega | assumption⟩) | exact False.elim (by omega)) dX5_layLink_24
  · skip
    refine lv_aload_n hC.x hC.b dX5_layLink_6 rfl (lv_at hl 0 rfl) ?_
    refine lv_iload_n hC.x hC.b dX5_layLink_7 rfl (lv_at hl 3 rfl) ?_
    refine goqp (runV (As := [.int fa]) (rest := []) hC hK hR hl.1 (c_X5_clockAt l hG σ τ fa fq (by first | rfl | (rw [show fa.toInt = fa.toInt from rfl]; done) | (rw [show fa.toInt = fa.toInt from rfl]; exact hp_fq)) ) (call_b hC.ts TC_X5_clockAt TN_X5 TM_X5_46 hd_X5_clockAt ⟨Nat.le_of_ble_eq_true rfl, Nat.le_of_ble_eq_true rfl⟩) TI_X5_clockAt TS_X5_clockAt (ct_shelf G _ _) rfl rfl rfl (Nat.le_of_ble_eq_true rfl) dX5_layLink_8 ⟨Nat.le_of_ble_eq_true rfl, Nat.le_of_ble_eq_true rfl⟩) hS (fun v_2 H locs w_3 hR hS => ?_)
    rcases w_3 with ⟨rfl, f_4⟩ | ⟨rfl, f_5, f_6, f_7, f_8⟩
    · skip
      refine lv_ifnullN (tgt := 23) hC.x hC.b dX5_layLink_11 (by decide) ?_
      refine lv_iconst (v := 0) hC.x hC.b dX5_layLink_23 (by decide) ?_
      exact retz hC hK hR hS (Or.inl rfl) (by first | exact Or.inl (⟨by first | rfl | omega, by first | rfl | assumption, by rfl, by first | omega | assumption⟩) | exact False.elim (by omega)) dX5_layLink_24
    · skip
      have hq_9 : fq < 24 := by omega
      refine lv_ifnull hC.x hC.b dX5_layLink_11 ?_
      refine lv_aload_n hC.x hC.b dX5_layLink_14 rfl (lv_at hl 0 rfl) ?_
      refine lv_iload hC.x hC.b dX5_layLink_15 (lv_at hl 4 rfl) ?_
      refine goqp (runV (As := [.int sa]) (rest := []) hC hK hR hl.1 (c_X5_clockAt l hG σ τ sa sq (by first | rfl | (rw [show sa.toInt = sa.toInt from rfl]; done) | (rw [show sa.toInt = sa.toInt from rfl]; exact hp_sq)) ) (call_b hC.ts TC_X5_clockAt TN_X5 TM_X5_46 hd_X5_clockAt ⟨Nat.le_of_ble_eq_true rfl, Nat.le_of_ble_eq_true rfl⟩) TI_X5_clockAt TS_X5_clockAt (ct_shelf G _ _) rfl rfl rfl (Nat.le_of_ble_eq_true rfl) dX5_layLink_17 ⟨Nat.le_of_ble_eq_true rfl, Nat.le_of_ble_eq_true rfl⟩) hS (fun v_10 H locs w_11 hR hS => ?_)
      rcases w_11 with ⟨rfl, f_12⟩ | ⟨rfl, f_13, f_14, f_15, f_16⟩
      · skip
        refine lv_ifnonnullN hC.x hC.b dX5_layLink_20 ?_
        refine lv_iconst (v := 0) hC.x hC.b dX5_layLink_23 (by decide) ?_
        exact retz hC hK hR hS (Or.inl rfl) (by first | exact Or.inl (⟨by first | rfl | omega, by first | rfl | assumption, by rfl, by first | omega | assumption⟩) | exact False.elim (by omega)) dX5_layLink_24
      · skip
        have hq_17 : sq < 24 := by omega
        refine lv_ifnonnull (tgt := 25) hC.x hC.b dX5_layLink_20 (by decide) ?_
        refine lv_iload_n hC.x hC.b dX5_layLink_25 rfl (lv_at hl 1 rfl) ?_
        refine bz_lt (tgt := 56) (a := pl.toInt) (b := 0) hC.x hC.b rfl rfl dX5_layLink_26 (by decide) (fun c_18 => ?_) (fun c_18 => ?_)
        · skip
          refine lv_iconst (v := 0) hC.x hC.b dX5_layLink_56 (by decide) ?_
          exact retz hC hK hR hS (Or.inl rfl) (by first | exact Or.inl (⟨by first | rfl | omega, by first | rfl | assumption, by rfl, by first | omega | assumption⟩) | exact False.elim (by omega)) dX5_layLink_57
        · skip
          refine lv_iload_n hC.x hC.b dX5_layLink_29 rfl (lv_at hl 1 rfl) ?_
          refine lv_aload_n hC.x hC.b dX5_layLink_30 rfl (lv_at hl 0 rfl) ?_
          refine rget hC hK hR (ct_shelf G _ _) rfl uin_X5 0 (by decide) TF_X5_9 rfl dX5_layLink_31 ?_
          refine ralen (t := 0) hC hK hR (by decide) (ct_kinds G _ _) (v := 24) rfl dX5_layLink_34 ?_
          refine bi_ge (tgt := 56) (a := pl.toInt) (b := 24) hC.x hC.b rfl rfl dX5_layLink_35 (by decide) (fun c_19 => ?_) (fun c_19 => ?_)
          · skip
            refine lv_iconst (v := 0) hC.x hC.b dX5_layLink_56 (by decide) ?_
            exact retz hC hK hR hS (Or.inl rfl) (by first | exact Or.inl (⟨by first | rfl | omega, by first | rfl | assumption, by rfl, by first | omega | assumption⟩) | exact False.elim (by omega)) dX5_layLink_57
          · skip
            refine lv_iload_n hC.x hC.b dX5_layLink_38 rfl (lv_at hl 1 rfl) ?_
            refine lv_aload_n hC.x hC.b dX5_layLink_39 rfl (lv_at hl 0 rfl) ?_
            refine rget hC hK hR (ct_shelf G _ _) rfl uin_X5 2 (by decide) TF_X5_23 rfl dX5_layLink_40 ?_
            refine ralen (t := 3) hC hK hR (by decide) (ct_links G _ _) (v := 24) rfl dX5_layLink_43 ?_
            refine bi_ge (tgt := 56) (a := pl.toInt) (b := 24) hC.x hC.b rfl rfl dX5_layLink_44 (by decide) (fun c_20 => ?_) (fun c_20 => ?_)
            · skip
              refine lv_iconst (v := 0) hC.x hC.b dX5_layLink_56 (by decide) ?_
              exact retz hC hK hR hS (Or.inl rfl) (by first | exact Or.inl (⟨by first | rfl | omega, by first | rfl | assumption, by rfl, by first | omega | assumption⟩) | exact False.elim (by omega)) dX5_layLink_57
            · skip
              refine lv_aload_n hC.x hC.b dX5_layLink_47 rfl (lv_at hl 0 rfl) ?_
              refine rget hC hK hR (ct_shelf G _ _) rfl uin_X5 2 (by decide) TF_X5_23 rfl dX5_layLink_48 ?_
              refine lv_iload_n hC.x hC.b dX5_layLink_51 rfl (lv_at hl 1 rfl) ?_
              have hq_21 : q < 24 := by omega
              refine aald (t0 := 3) hC hK hR (by decide) rfl (ct_links G _ _) rfl (by omega) (by omega) hp_q dX5_layLink_52 ?_
              refine lv_ifnonnull (tgt := 58) hC.x hC.b dX5_layLink_53 (by decide) ?_
              refine lv_aload_n hC.x hC.b dX5_layLink_58 rfl (lv_at hl 0 rfl) ?_
              refine rget hC hK hR (ct_shelf G _ _) rfl uin_X5 0 (by decide) TF_X5_9 rfl dX5_layLink_59 ?_
              refine lv_iload_n hC.x hC.b dX5_layLink_62 rfl (lv_at hl 1 rfl) ?_
              refine lv_iload_n hC.x hC.b dX5_layLink_63 rfl (lv_at hl 2 rfl) ?_
              refine ast hC hK hG hR hS (fun _ => ct_kinds G _ _) rfl (by omega) (by omega) hp_q dX5_layLink_64 (fun s_22 es_23 H locs hR hS => ?_)
              refine lv_aload_n hC.x hC.b dX5_layLink_65 rfl (lv_at hl 0 rfl) ?_
              refine rget hC hK hR (ct_shelf G _ _) rfl uin_X5 2 (by decide) TF_X5_23 rfl dX5_layLink_66 ?_
              refine lv_iload_n hC.x hC.b dX5_layLink_69 rfl (lv_at hl 1 rfl) ?_
              have hq_24 : q < 24 := by omega
              refine aald (t0 := 3) hC hK hR (by decide) rfl (ct_links G _ _) rfl (by omega) (by omega) hp_q dX5_layLink_70 ?_
              refine lv_iload_n hC.x hC.b dX5_layLink_71 rfl (lv_at hl 2 rfl) ?_
              refine lv_iload_n hC.x hC.b dX5_layLink_72 rfl (lv_at hl 3 rfl) ?_
              refine lv_iload hC.x hC.b dX5_layLink_73 (lv_at hl 4 rfl) ?_
              refine gov (runV (As := [.int ka, .int fa, .int sa]) (rest := []) hC hK hR hl.1 (c_X4_lay l hG s_22 τ q hq_24 ka fa sa ) (call_b hC.ts TC_X4_lay TN_X4 TM_X5_50 hd_X4_lay ⟨Nat.le_of_ble_eq_true rfl, Nat.le_of_ble_eq_true rfl⟩) TI_X4_lay TS_X4_lay (ct_link hq_24 G _ _) rfl rfl rfl (Nat.le_of_ble_eq_true rfl) dX5_layLink_75 ⟨Nat.le_of_ble_eq_true rfl, Nat.le_of_ble_eq_true rfl⟩) hS (fun s_27 t_28 H locs w_26 hR hS => ?_)
              try dsimp only [po_X4_lay] at w_26
              obtain ⟨et_29, f_30⟩ := w_26
              rw [et_29] at hR
              refine lv_iconst (v := 1) hC.x hC.b dX5_layLink_78 (by decide) ?_
              exact retz hC hK hR hS (Or.inr rfl) (by first | exact Or.inr ((⟨by subst es_23; (first | rfl | omega), by subst es_23; (rfl), by subst es_23; (first | omega | assumption), by subst es_23; (first | omega | assumption), by subst es_23; (first | omega | assumption), by subst es_23; (first | omega | assumption), by subst es_23; (first | omega | assumption), by subst es_23; (first | omega | assumption), by subst es_23; (first | omega | assumption), by subst es_23; (first | omega | assumption), by subst es_23; (first | omega | assumption), by subst es_23; (first | omega | assumption), by subst es_23; (first | omega | assumption), by subst es_23; (first | omega | assumption)⟩)) | exact False.elim (by omega)) dX5_layLink_79
