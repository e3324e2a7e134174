abbrev po_X9_refusalAt (σ : SI) (τ : SL) (pl : Int32) (q : Nat) : Int32 → SI × SL → Prop := fun v u => u = (σ, τ) ∧ (((v = (-1)) ∧ (¬ (0 ≤ pl.toInt ∧ pl.toInt < 24) ∨ (σ 2 q).toInt = -1)) ∨ ((v = (-2)) ∧ (0 ≤ pl.toInt) ∧ (pl.toInt < 24) ∧ ((σ 2 q).toInt ≠ -1)))
set_option maxRecDepth 100000 in
set_option maxHeartbeats 4000000 in
theorem c_X9_refusalAt (l : Launch) {G : Gx} {A : Nat → Prop} (hG : GOk G A) (σ : SI) (τ : SL) (pl : Int32) (q : Nat) (hp_q : pl.toInt.toNat = q) : MI l G A 1 yX9_refusalAt cX9_refusalAt 2 (some .int) [.ref (G.2.1 0), .int pl] (σ, τ) (po_X9_refusalAt σ τ pl q) := by
  refine met_of (own := RX9) (by decide +kernel) rfl [(0, .ref (G.2.1 0)), (1, .int pl)] rfl (Nat.le_of_ble_eq_true rfl) ?_
  intro p e s m args below meth c ls hC hK hR hl
  have hS : va_S A s.heap s.heap [] := va_S.rf
  refine lv_aload_n hC.x hC.b dX9_refusalAt_0 rfl (lv_at hl 0 rfl) ?_
  refine rget hC hK hR (ct_bench G _ _) rfl uin_X9 0 (by decide) TF_X9_10 rfl dX9_refusalAt_1 ?_
  refine lv_iload_n hC.x hC.b dX9_refusalAt_4 rfl (lv_at hl 1 rfl) ?_
  refine goip (runV (As := [.int pl]) (rest := []) hC hK hR hl.1 (c_X5_kindAt l hG σ τ pl q (by first | rfl | (rw [show pl.toInt = pl.toInt from rfl]; done) | (rw [show pl.toInt = pl.toInt from rfl]; exact hp_q)) ) (call_b hC.ts TC_X5_kindAt TN_X5 TM_X9_84 hd_X5_kindAt ⟨Nat.le_of_ble_eq_true rfl, Nat.le_of_ble_eq_true rfl⟩) TI_X5_kindAt TS_X5_kindAt (ct_shelf G _ _) rfl rfl rfl (Nat.le_of_ble_eq_true rfl) dX9_refusalAt_5 ⟨Nat.le_of_ble_eq_true rfl, Nat.le_of_ble_eq_true rfl⟩) hS (fun v_1 H locs w_2 hR hS => ?_)
  rcases w_2 with ⟨rfl, f_3, f_4⟩ | ⟨rfl, f_5⟩
  · skip
    refine lv_iconst (v := (-1)) hC.x hC.b dX9_refusalAt_8 (by decide) ?_
    refine bi_ne (tgt := 16) (a := (σ 2 q).toInt) (b := (-1)) hC.x hC.b rfl rfl dX9_refusalAt_9 (by decide) (fun c_6 => ?_) (fun c_6 => ?_)
    · skip
      refine lv_bipush (v := (-2)) hC.x hC.b dX9_refusalAt_16 (by decide) ?_
      exact reti hC hK hR hS ⟨rfl, (by first | exact Or.inr ((⟨by first | rfl | omega, by first | omega | assumption, by first | omega | assumption, by first | omega | assumption⟩)) | exact False.elim (by omega))⟩ dX9_refusalAt_18
    · skip
      refine lv_iconst (v := (-1)) hC.x hC.b dX9_refusalAt_12 (by decide) ?_
      refine lv_goto (tgt := 18) hC.x hC.b dX9_refusalAt_13 (by decide) ?_
      exact reti hC hK hR hS ⟨rfl, (by first | exact Or.inl (⟨by first | rfl | omega, by first | omega | assumption⟩) | exact False.elim (by omega))⟩ dX9_refusalAt_18
  · skip
    refine lv_iconst (v := (-1)) hC.x hC.b dX9_refusalAt_8 (by decide) ?_
    refine bi_ne (tgt := 16) (a := (-1)) (b := (-1)) hC.x hC.b rfl rfl dX9_refusalAt_9 (by decide) (fun c_7 => absurd c_7 (by decide)) (fun _ => ?_)
    refine lv_iconst (v := (-1)) hC.x hC.b dX9_refusalAt_12 (by decide) ?_
    refine lv_goto (tgt := 18) hC.x hC.b dX9_refusalAt_13 (by decide) ?_
    exact reti hC hK hR hS ⟨rfl, (by first | exact Or.inl (⟨by first | rfl | omega, by first | omega | assumption⟩) | exact False.elim (by omega))⟩ dX9_refusalAt_18

abbrev po_X9_hasCome (σ : SI) (τ : SL) (hr : Int32) : Int32 → SI × SL → Prop := fun v u => u = (σ, τ) ∧ (((v = (1)) ∧ (0 ≤ hr.toInt) ∧ (hr.toInt ≤ (σ 0 8).toInt)) ∨ ((v = (0)) ∧ (¬ (0 ≤ hr.toInt ∧ hr.toInt ≤ (σ 0 8).toInt))))
set_option maxRecDepth 100000 in
set_option maxHeartbeats 4000000 in
theorem c_X9_hasCome (l : Launch) {G : Gx} {A : Nat → Prop} (hG : GOk G A) (σ : SI) (τ : SL) (hr : Int32) : MI l G A 0 yX9_hasCome cX9_hasCome 2 (some .boolean) [.ref (G.2.1 0), .int hr] (σ, τ) (po_X9_hasCome σ τ hr) := by
  refine met_of (own := RX9) (by decide +kernel) rfl [(0, .ref (G.2.1 0)), (1, .int hr)] rfl (Nat.le_of_ble_eq_true rfl) ?_
  intro p e s m args below meth c ls hC hK hR hl
  have hS : va_S A s.heap s.heap [] := va_S.rf
  refine lv_iload_n hC.x hC.b dX9_hasCome_0 rfl (lv_at hl 1 rfl) ?_
  refine bz_lt (tgt := 16) (a := hr.toInt) (b := 0) hC.x hC.b rfl rfl dX9_hasCome_1 (by decide) (fun c_1 => ?_) (fun c_1 => ?_)
  · skip
    refine lv_iconst (v := 0) hC.x hC.b dX9_hasCome_16 (by decide) ?_
    exact retz hC hK hR hS (Or.inl rfl) ⟨rfl, (by first | exact Or.inr ((⟨by first | rfl | omega, by first | omega | assumption⟩)) | exact False.elim (by omega))⟩ dX9_hasCome_17
  · skip
    refine lv_iload_n hC.x hC.b dX9_hasCome_4 rfl (lv_at hl 1 rfl) ?_
    refine lv_aload_n hC.x hC.b dX9_hasCome_5 rfl (lv_at hl 0 rfl) ?_
    refine rget hC hK hR (ct_bench G _ _) rfl uin_X9 8 (by decide) TF_X9_65 rfl dX9_hasCome_6 ?_
    refine bi_gt (tgt := 16) (a := hr.toInt) (b := (σ 0 8).toInt) hC.x hC.b rfl rfl dX9_hasCome_9 (by decide) (fun c_2 => ?_) (fun c_2 => ?_)
    · skip
      refine lv_iconst (v := 0) hC.x hC.b dX9_hasCome_16 (by decide) ?_
      exact retz hC hK hR hS (Or.inl rfl) ⟨rfl, (by first | exact Or.inr ((⟨by first | rfl | omega, by first | omega | assumption⟩)) | exact False.elim (by omega))⟩ dX9_hasCome_17
    · skip
      refine lv_iconst (v := 1) hC.x hC.b dX9_hasCome_12 (by decide) ?_
      refine lv_goto (tgt := 17) hC.x hC.b dX9_hasCome_13 (by decide) ?_
      exact retz hC hK hR hS (Or.inr rfl) ⟨rfl, (by first | exact Or.inl (⟨by first | rfl | omega, by first | omega | assumption, by first | omega | assumption⟩) | exact False.elim (by omega))⟩ dX9_hasCome_17

abbrev po_X9_refusalOfClocks (σ : SI) (τ : SL) (xa : Int32) (xq : Nat) (ya : Int32) (yq : Nat) : Int32 → SI × SL → Prop := fun v u => u = (σ, τ) ∧ (((v = (0))) ∨ ((v = (-1))) ∨ ((v = (-2))))
set_option maxRecDepth 100000 in
set_option maxHeartbeats 4000000 in
theorem c_X9_refusalOfClocks (l : Launch) {G : Gx} {A : Nat → Prop} (hG : GOk G A) (σ : SI) (τ : SL) (xa : Int32) (xq : Nat) (hp_xq : xa.toInt.toNat = xq) (ya : Int32) (yq : Nat) (hp_yq : ya.toInt.toNat = yq) : MI l G A 2 yX9_refusalOfClocks cX9_refusalOfClocks 3 (some .int) [.ref (G.2.1 0), .int xa, .int ya] (σ, τ) (po_X9_refusalOfClocks σ τ xa xq ya yq) := by
  refine met_of (own := RX9) (by decide +kernel) rfl [(0, .ref (G.2.1 0)), (1, .int xa), (2, .int ya)] rfl (Nat.le_of_ble_eq_true rfl) ?_
  intro p e s m args below meth c ls hC hK hR hl
  have hS : va_S A s.heap s.heap [] := va_S.rf
  refine lv_aload_n hC.x hC.b dX9_refusalOfClocks_0 rfl (lv_at hl 0 rfl) ?_
  refine rget hC hK hR (ct_bench G _ _) rfl uin_X9 0 (by decide) TF_X9_10 rfl dX9_refusalOfClocks_1 ?_
  refine lv_iload_n hC.x hC.b dX9_refusalOfClocks_4 rfl (lv_at hl 1 rfl) ?_
  refine goqp (runV (As := [.int xa]) (rest := []) hC hK hR hl.1 (c_X5_clockAt l hG σ τ xa xq (by first | rfl | (rw [show xa.toInt = xa.toInt from rfl]; done) | (rw [show xa.toInt = xa.toInt from rfl]; exact hp_xq)) ) (call_b hC.ts TC_X5_clockAt TN_X5 TM_X9_169 hd_X5_clockAt ⟨Nat.le_of_ble_eq_true rfl, Nat.le_of_ble_eq_true rfl⟩) TI_X5_clockAt TS_X5_clockAt (ct_shelf G _ _) rfl rfl rfl (Nat.le_of_ble_eq_true rfl) dX9_refusalOfClocks_5 ⟨Nat.le_of_ble_eq_true rfl, Nat.le_of_ble_eq_true rfl⟩) hS (fun v_1 H locs w_2 hR hS => ?_)
  rcases w_2 with ⟨rfl, f_3⟩ | ⟨rfl, f_4, f_5, f_6, f_7⟩
  · skip
    refine lv_ifnonnullN hC.x hC.b dX9_refusalOfClocks_8 ?_
    refine lv_aload_n hC.x hC.b dX9_refusalOfClocks_11 rfl (lv_at hl 0 rfl) ?_
    refine lv_iload_n hC.x hC.b dX9_refusalOfClocks_12 rfl (lv_at hl 1 rfl) ?_
    refine goip (runV (As := [.int xa]) (rest := []) hC hK hR hl.1 (c_X9_refusalAt l hG σ τ xa xq (by first | rfl | (rw [show xa.toInt = xa.toInt from rfl]; done) | (rw [show xa.toInt = xa.toInt from rfl]; exact hp_xq)) ) (call_b hC.ts TC_X9_refusalAt TN_X9 TM_X9_116 hd_X9_refusalAt ⟨Nat.le_of_ble_eq_true rfl, Nat.le_of_ble_eq_true rfl⟩) TI_X9_refusalAt TS_X9_refusalAt (ct_bench G _ _) rfl rfl rfl (Nat.le_of_ble_eq_true rfl) dX9_refusalOfClocks_13 ⟨Nat.le_of_ble_eq_true rfl, Nat.le_of_ble_eq_true rfl⟩) hS (fun v_8 H locs w_9 hR hS => ?_)
    rcases w_9 with ⟨rfl, f_10⟩ | ⟨rfl, f_11, f_12, f_13⟩
    · skip
      exact reti hC hK hR hS ⟨rfl, (by first | exact Or.inr (Or.inl (by first | rfl | omega)) | exact False.elim (by omega))⟩ dX9_refusalOfClocks_16
    · skip
      exact reti hC hK hR hS ⟨rfl, (by first | exact Or.inr (Or.inr ((by first | rfl | omega))) | exact False.elim (by omega))⟩ dX9_refusalOfClocks_16
  · skip
    have hq_14 : xq < 24 := by omega
    refine lv_ifnonnull (tgt := 17) hC.x hC.b dX9_refusalOfClocks_8 (by decide) ?_
    refine lv_aload_n hC.x hC.b dX9_refusalOfClocks_17 rfl (lv_at hl 0 rfl) ?_
    refine rget hC hK hR (ct_bench G _ _) rfl uin_X9 0 (by decide) TF_X9_10 rfl dX9_refusalOfClocks_18 ?_
    refine lv_iload_n hC.x hC.b dX9_refusalOfClocks_21 rfl (lv_at hl 2 rfl) ?_
    refine goqp (runV (As := [.int ya]) (rest := []) hC hK hR hl.1 (c_X5_clockAt l hG σ τ ya yq (by first | rfl | (rw [show ya.toInt = ya.toInt from rfl]; done) | (rw [show ya.toInt = ya.toInt from rfl]; exact hp_yq)) ) (call_b hC.ts TC_X5_clockAt TN_X5 TM_X9_169 hd_X5_clockAt ⟨Nat.le_of_ble_eq_true rfl, Nat.le_of_ble_eq_true rfl⟩) TI_X5_clockAt TS_X5_clockAt (ct_shelf G _ _) rfl rfl rfl (Nat.le_of_ble_eq_true rfl) dX9_refusalOfClocks_22 ⟨Nat.le_of_ble_eq_true rfl, Nat.le_of_ble_eq_true rfl⟩) hS (fun v_15 H locs w_16 hR hS => ?_)
    rcases w_16 with ⟨rfl, f_17⟩ | ⟨rfl, f_18, f_19, f_20, f_21⟩
    · skip
      refine lv_ifnonnullN hC.x hC.b dX9_refusalOfClocks_25 ?_
      refine lv_aload_n hC.x hC.b dX9_refusalOfClocks_28 rfl (lv_at hl 0 rfl) ?_
      refine lv_iload_n hC.x hC.b dX9_refusalOfClocks_29 rfl (lv_at hl 2 rfl) ?_
      refine goip (runV (As := [.int ya]) (rest := []) hC hK hR hl.1 (c_X9_refusalAt l hG σ τ ya yq (by first | rfl | (rw [show ya.toInt = ya.toInt from rfl]; done) | (rw [show ya.toInt = ya.toInt from rfl]; exact hp_yq)) ) (call_b hC.ts TC_X9_refusalAt TN_X9 TM_X9_116 hd_X9_refusalAt ⟨Nat.le_of_ble_eq_true rfl, Nat.le_of_ble_eq_true rfl⟩) TI_X9_refusalAt TS_X9_refusalAt (ct_bench G _ _) rfl rfl rfl (Nat.le_of_ble_eq_true rfl) dX9_refusalOfClocks_30 ⟨Nat.le_of_ble_eq_true rfl, Nat.le_of_ble_eq_true rfl⟩) hS (fun v_22 H locs w_23 hR hS => ?_)
      rcases w_23 with ⟨rfl, f_24⟩ | ⟨rfl, f_25, f_26, f_27⟩
      · skip
        refine lv_goto (tgt := 37) hC.x hC.b dX9_refusalOfClocks_33 (by decide) ?_
        exact reti hC hK hR hS ⟨rfl, (by first | exact Or.inr (Or.inl (by first | rfl | omega)) | exact False.elim (by omega))⟩ dX9_refusalOfClocks_37
      · skip
        refine lv_goto (tgt := 37) hC.x hC.b dX9_refusalOfClocks_33 (by decide) ?_
        exact reti hC hK hR hS ⟨rfl, (by first | exact Or.inr (Or.inr ((by first | rfl | omega))) | exact False.elim (by omega))⟩ dX9_refusalOfClocks_37
    · skip
      have hq_28 : yq < 24 := by omega
      refine lv_ifnonnull (tgt := 36) hC.x hC.b dX9_refusalOfClocks_25 (by decide) ?_
      refine lv_iconst (v := 0) hC.x hC.b dX9_refusalOfClocks_36 (by decide) ?_
      exact reti hC hK hR hS ⟨rfl, (by first | exact Or.inl (by first | rfl | omega) | exact False.elim (by omega))⟩ dX9_refusalOfClocks_37

abbrev po_X9_findWay (σ : SI) (τ : SL) (xa : Int32) (ya : Int32) (hr : Int32) : Int32 → SI × SL → Prop := fun v u => ((Fr (fun k => 12 ≤ k ∧ k ≤ 17) σ u.1))
set_option maxRecDepth 100000 in
set_option maxHeartbeats 4000000 in
theorem c_X9_findWay (l : Launch) {G : Gx} {A : Nat → Prop} (hG : GOk G A) (σ : SI) (τ : SL) (xa : Int32) (ya : Int32) (hr : Int32) : MI l G A 4 yX9_findWay cX9_findWay 4 (some .int) [.ref (G.2.1 0), .int xa, .int ya, .int hr] (σ, τ) (po_X9_findWay σ τ xa ya hr) := by
  refine met_of (own := RX9) (by decide +kernel) rfl [(0, .ref (G.2.1 0)), (1, .int xa), (2, .int ya), (3, .int hr)] rfl (Nat.le_of_ble_eq_true rfl) ?_
  intro p e s m args below meth c ls hC hK hR hl
  have hS : va_S A s.heap s.heap [] := va_S.rf
  refine lv_aload_n hC.x hC.b dX9_findWay_0 rfl (lv_at hl 0 rfl) ?_
  refine lv_iload_n hC.x hC.b dX9_findWay_1 rfl (lv_at hl 3 rfl) ?_
  refine goip (runV (As := [.int hr]) (rest := []) hC hK hR hl.1 (c_X9_hasCome l hG σ τ hr ) (call_b hC.ts TC_X9_hasCome TN_X9 TM_X9_142 hd_X9_hasCome ⟨Nat.le_of_ble_eq_true rfl, Nat.le_of_ble_eq_true rfl⟩) TI_X9_hasCome TS_X9_hasCome (ct_bench G _ _) rfl rfl rfl (Nat.le_of_ble_eq_true rfl) dX9_findWay_2 ⟨Nat.le_of_ble_eq_true rfl, Nat.le_of_ble_eq_true rfl⟩) hS (fun v_1 H locs w_2 hR hS => ?_)
  rcases w_2 with ⟨rfl, f_3, f_4⟩ | ⟨rfl, f_5⟩
  · skip
    refine bz_ne (tgt := 10) (a := 1) (b := 0) hC.x hC.b rfl rfl dX9_findWay_5 (by decide) (fun _ => ?_) (fun c_6 => absurd c_6 (by decide))
    refine lv_aload_n hC.x hC.b dX9_findWay_10 rfl (lv_at hl 0 rfl) ?_
    refine rget hC hK hR (ct_bench G _ _) rfl uin_X9 3 (by decide) TF_X9_35 rfl dX9_findWay_11 ?_
    refine lv_iload_n hC.x hC.b dX9_findWay_14 rfl (lv_at hl 1 rfl) ?_
    refine lv_iload_n hC.x hC.b dX9_findWay_15 rfl (lv_at hl 2 rfl) ?_
    refine goip (runS (As := [.int xa, .int ya]) (rest := [.ref (G.2.1 12)]) hC hK hR hl.1 (c_J9_min_7cf53 l hG σ τ xa ya ) (call_b hC.ts TC_J9_min_7cf53 TN_J9 TM_X9_269 hd_J9_min_7cf53 ⟨Nat.le_of_ble_eq_true rfl, Nat.le_of_ble_eq_true rfl⟩) TT_J9_min_7cf53 rfl rfl (Nat.le_of_ble_eq_true rfl) dX9_findWay_16 ⟨Nat.le_of_ble_eq_true rfl, Nat.le_of_ble_eq_true rfl⟩) hS (fun v_7 H locs w_8 hR hS => ?_)
    have f_9 := w_8
    refine lv_iload_n hC.x hC.b dX9_findWay_19 rfl (lv_at hl 3 rfl) ?_
    refine gov (runV (As := [.int v_7, .int hr]) (rest := []) hC hK hR hl.1 (c_X8_spread l hG σ τ v_7 hr ) (call_b hC.ts TC_X8_spread TN_X8 TM_X9_272 hd_X8_spread ⟨Nat.le_of_ble_eq_true rfl, Nat.le_of_ble_eq_true rfl⟩) TI_X8_spread TS_X8_spread (ct_ways G _ _) rfl rfl rfl (Nat.le_of_ble_eq_true rfl) dX9_findWay_20 ⟨Nat.le_of_ble_eq_true rfl, Nat.le_of_ble_eq_true rfl⟩) hS (fun s_12 t_13 H locs w_11 hR hS => ?_)
    try dsimp only [po_X8_spread] at w_11
    have f_14 := w_11
    refine lv_aload_n hC.x hC.b dX9_findWay_23 rfl (lv_at hl 0 rfl) ?_
    refine rget hC hK hR (ct_bench G _ _) rfl uin_X9 3 (by decide) TF_X9_35 rfl dX9_findWay_24 ?_
    refine lv_iload_n hC.x hC.b dX9_findWay_27 rfl (lv_at hl 1 rfl) ?_
    refine lv_iload_n hC.x hC.b dX9_findWay_28 rfl (lv_at hl 2 rfl) ?_
    refine goip (runS (As := [.int xa, .int ya]) (rest := [.ref (G.2.1 12)]) hC hK hR hl.1 (c_J9_max_7cf53 l hG s_12 t_13 xa ya ) (call_b hC.ts TC_J9_max_7cf53 TN_J9 TM_X9_157 hd_J9_max_7cf53 ⟨Nat.le_of_ble_eq_true rfl, Nat.le_of_ble_eq_true rfl⟩) TT_J9_max_7cf53 rfl rfl (Nat.le_of_ble_eq_true rfl) dX9_findWay_29 ⟨Nat.le_of_ble_eq_true rfl, Nat.le_of_ble_eq_true rfl⟩) hS (fun v_15 H locs w_16 hR hS => ?_)
    have f_17 := w_16
    refine goip (runV (As := [.int v_15]) (rest := []) hC hK hR hl.1 (c_X8_lengthTo l hG s_12 t_13 v_15 v_15.toInt.toNat rfl ) (call_b hC.ts TC_X8_lengthTo TN_X8 TM_X9_275 hd_X8_lengthTo ⟨Nat.le_of_ble_eq_true rfl, Nat.le_of_ble_eq_true rfl⟩) TI_X8_lengthTo TS_X8_lengthTo (ct_ways G _ _) rfl rfl rfl (Nat.le_of_ble_eq_true rfl) dX9_findWay_32 ⟨Nat.le_of_ble_eq_true rfl, Nat.le_of_ble_eq_true rfl⟩) hS (fun v_18 H locs w_19 hR hS => ?_)
    rcases w_19 with ⟨rfl, f_20, f_21⟩ | ⟨rfl, f_22⟩
    · skip
      exact reti hC hK hR hS (by exact (Fr.tr Fr.rf f_14)) dX9_findWay_35
    · skip
      exact reti hC hK hR hS (by exact (Fr.tr Fr.rf f_14)) dX9_findWay_35
  · skip
    refine bz_ne (tgt := 10) (a := 0) (b := 0) hC.x hC.b rfl rfl dX9_findWay_5 (by decide) (fun c_23 => absurd c_23 (by decide)) (fun _ => ?_)
    refine lv_iconst (v := (-1)) hC.x hC.b dX9_findWay_8 (by decide) ?_
    exact reti hC hK hR hS (by exact Fr.rf) dX9_findWay_9

abbrev po_X9_put (σ : SI) (τ : SL) (pl : Int32) (q : Nat) (ka : Int32) (fa : Int32) (fq : Nat) (sa : Int32) (sq : Nat) : Int32 → SI × SL → Prop := fun v u => ((v = (-1)) ∧ (u.1 = σ) ∧ (u.2 = τ) ∧ (¬ ((0 ≤ pl.toInt ∧ pl.toInt < 24) ∧ ((σ 2 q).toInt = -1) ∧ (0 ≤ ka.toInt ∧ ka.toInt ≤ 3) ∧ (2 ≤ fa.toInt ∧ fa.toInt ≤ 12) ∧ (1 ≤ sa.toInt ∧ sa.toInt ≤ 12))) ∧ (¬ ((0 ≤ pl.toInt ∧ pl.toInt < 24) ∧ ((σ 2 q).toInt = -1) ∧ (4 ≤ ka.toInt ∧ ka.toInt ≤ 6) ∧ (fa.toInt ≠ sa.toInt) ∧ (0 ≤ fa.toInt ∧ fa.toInt < 24 ∧ 0 ≤ (σ 2 fq).toInt ∧ (σ 2 fq).toInt ≤ 3) ∧ (0 ≤ sa.toInt ∧ sa.toInt < 24 ∧ 0 ≤ (σ 2 sq).toInt ∧ (σ 2 sq).toInt ≤ 3))) ∧ (¬ ((0 ≤ pl.toInt ∧ pl.toInt < 24) ∧ ((σ 2 q).toInt = -1) ∧ (ka.toInt = 7)))) ∨ ((v = pl) ∧ (u.1 = (up2 (up2 (up2 (up2 (up2 (up2 (up2 (up2 (up2 (up2 (up2 (up2 σ 2 q ka) (80 + q) 1 ka) (80 + q) 2 fa) (80 + q) 3 sa) (80 + q) 4 0) (80 + q) 5 0) (80 + q) 6 0) (80 + q) 10 0) (80 + q) 11 0) (80 + q) 8 (σ 0 8)) (80 + q) 7 0) (80 + q) 9 (-10))) ∧ (u.2 = τ) ∧ ((0 ≤ pl.toInt ∧ pl.toInt < 24) ∧ ((σ 2 q).toInt = -1) ∧ (0 ≤ ka.toInt ∧ ka.toInt ≤ 3) ∧ (2 ≤ fa.toInt ∧ fa.toInt ≤ 12) ∧ (1 ≤ sa.toInt ∧ sa.toInt ≤ 12))) ∨ ((v = pl) ∧ (u.2 = τ) ∧ ((0 ≤ pl.toInt ∧ pl.toInt < 24) ∧ ((σ 2 q).toInt = -1) ∧ (4 ≤ ka.toInt ∧ ka.toInt ≤ 6) ∧ (fa.toInt ≠ sa.toInt) ∧ (0 ≤ fa.toInt ∧ fa.toInt < 24 ∧ 0 ≤ (σ 2 fq).toInt ∧ (σ 2 fq).toInt ≤ 3) ∧ (0 ≤ sa.toInt ∧ sa.toInt < 24 ∧ 0 ≤ (σ 2 sq).toInt ∧ (σ 2 sq).toInt ≤ 3)) ∧ (Torn (up2 (up2 (up2 (up2 (up2 σ 2 q ka) (104 + q) 0 ka) (104 + q) 1 fa) (104 + q) 2 sa) (104 + q) 3 0) u.1 q)) ∨ ((v = pl) ∧ (u.1 = up2 σ 2 q 7) ∧ (u.2 = τ) ∧ ((0 ≤ pl.toInt ∧ pl.toInt < 24) ∧ ((σ 2 q).toInt = -1) ∧ (ka.toInt = 7)))
set_option maxRecDepth 100000 in
set_option maxHeartbeats 4000000 in
theorem c_X9_put (l : Launch) {G : Gx} {A : Nat → Prop} (hG : GOk G A) (σ : SI) (τ : SL) (pl : Int32) (q : Nat) (hp_q : pl.toInt.toNat = q) (ka : Int32) (fa : Int32) (fq : Nat) (hp_fq : fa.toInt.toNat = fq) (sa : Int32) (sq : Nat) (hp_sq : sa.toInt.toNat = sq) : MI l G A 3 yX9_put cX9_put 6 (some .int) [.ref (G.2.1 0), .int pl, .int ka, .int fa, .int sa] (σ, τ) (po_X9_put σ τ pl q ka fa fq sa sq) := by
  refine met_of (own := RX9) (by decide +kernel) rfl [(0, .ref (G.2.1 0)), (1, .int pl), (2, .int ka), (3, .int fa), (4, .int sa)] rfl (Nat.le_of_ble_eq_true rfl) ?_
  intro p e s m args below meth c ls hC hK hR hl
  have hS : va_S A s.heap s.heap [] := va_S.rf
  refine lv_iload_n hC.x hC.b dX9_put_0 rfl (lv_at hl 1 rfl) ?_
  refine goip (runS (As := [.int pl]) (rest := []) hC hK hR hl.1 (c_X9_isPlace l hG σ τ pl ) (call_b hC.ts TC_X9_isPlace TN_X9 TM_X9_80 hd_X9_isPlace ⟨Nat.le_of_ble_eq_true rfl, Nat.le_of_ble_eq_true rfl⟩) TT_X9_isPlace rfl rfl (Nat.le_of_ble_eq_true rfl) dX9_put_1 ⟨Nat.le_of_ble_eq_true rfl, Nat.le_of_ble_eq_true rfl⟩) hS (fun v_1 H locs w_2 hR hS => ?_)
  rcases w_2 with ⟨rfl, f_3, f_4⟩ | ⟨rfl, f_5⟩
  · skip
    refine bz_eq (tgt := 19) (a := 1) (b := 0) hC.x hC.b rfl rfl dX9_put_4 (by decide) (fun c_6 => absurd c_6 (by decide)) (fun _ => ?_)
    refine lv_aload_n hC.x hC.b dX9_put_7 rfl (lv_at hl 0 rfl) ?_
    refine rget hC hK hR (ct_bench G _ _) rfl uin_X9 0 (by decide) TF_X9_10 rfl dX9_put_8 ?_
    refine lv_iload_n hC.x hC.b dX9_put_11 rfl (lv_at hl 1 rfl) ?_
    refine goip (runV (As := [.int pl]) (rest := []) hC hK hR hl.1 (c_X5_kindAt l hG σ τ pl q (by first | rfl | (rw [show pl.toInt = pl.toInt from rfl]; done) | (rw [show pl.toInt = pl.toInt from rfl]; exact hp_q)) ) (call_b hC.ts TC_X5_kindAt TN_X5 TM_X9_84 hd_X5_kindAt ⟨Nat.le_of_ble_eq_true rfl, Nat.le_of_ble_eq_true rfl⟩) TI_X5_kindAt TS_X5_kindAt (ct_shelf G _ _) rfl rfl rfl (Nat.le_of_ble_eq_true rfl) dX9_put_12 ⟨Nat.le_of_ble_eq_true rfl, Nat.le_of_ble_eq_true rfl⟩) hS (fun v_7 H locs w_8 hR hS => ?_)
    rcases w_8 with ⟨rfl, f_9, f_10⟩ | ⟨rfl, f_11⟩
    · skip
      refine lv_iconst (v := (-1)) hC.x hC.b dX9_put_15 (by decide) ?_
      refine bi_eq (tgt := 21) (a := (σ 2 q).toInt) (b := (-1)) hC.x hC.b rfl rfl dX9_put_16 (by decide) (fun c_12 => ?_) (fun c_12 => ?_)
      · skip
        refine lv_iconst (v := 0) hC.x hC.b dX9_put_21 (by decide) ?_
        refine lv_istore (lv' := [(5, .int (0 : Int32)), (0, .ref (G.2.1 0)), (1, .int pl), (2, .int ka), (3, .int fa), (4, .int sa)]) hC.x hC.b dX9_put_22 hl (by decide) rfl (fun ls hl => ?_)
        refine lv_iload_n hC.x hC.b dX9_put_24 rfl (lv_at hl 3 rfl) ?_
        refine goip (runS (As := [.int ka]) (rest := []) hC hK hR hl.1 (c_X9_isClockKind l hG σ τ ka ) (call_b hC.ts TC_X9_isClockKind TN_X9 TM_X9_88 hd_X9_isClockKind ⟨Nat.le_of_ble_eq_true rfl, Nat.le_of_ble_eq_true rfl⟩) TT_X9_isClockKind rfl rfl (Nat.le_of_ble_eq_true rfl) dX9_put_25 ⟨Nat.le_of_ble_eq_true rfl, Nat.le_of_ble_eq_true rfl⟩) hS (fun v_13 H locs w_14 hR hS => ?_)
        rcases w_14 with ⟨rfl, f_15, f_16⟩ | ⟨rfl, f_17⟩
        · skip
          refine bz_eq (tgt := 52) (a := 1) (b := 0) hC.x hC.b rfl rfl dX9_put_28 (by decide) (fun c_18 => absurd c_18 (by decide)) (fun _ => ?_)
          refine lv_aload_n hC.x hC.b dX9_put_31 rfl (lv_at hl 1 rfl) ?_
          refine rget hC hK hR (ct_bench G _ _) rfl uin_X9 0 (by decide) TF_X9_10 rfl dX9_put_32 ?_
          refine lv_iload_n hC.x hC.b dX9_put_35 rfl (lv_at hl 2 rfl) ?_
          refine lv_iload_n hC.x hC.b dX9_put_36 rfl (lv_at hl 3 rfl) ?_
          refine lv_iload_n hC.x hC.b dX9_put_37 rfl (lv_at hl 4 rfl) ?_
          refine lv_iload hC.x hC.b dX9_put_38 (lv_at hl 5 rfl) ?_
          refine lv_aload_n hC.x hC.b dX9_put_40 rfl (lv_at hl 1 rfl) ?_
          refine rget hC hK hR (ct_bench G _ _) rfl uin_X9 8 (by decide) TF_X9_65 rfl dX9_put_41 ?_
          refine goi (runV (As := [.int pl, .int ka, .int fa, .int sa, .int (σ 0 8)]) (rest := []) hC hK hR hl.1 (c_X5_layClock l hG σ τ pl q (by first | rfl | (rw [show pl.toInt = pl.toInt from rfl]; done) | (rw [show pl.toInt = pl.toInt from rfl]; exact hp_q)) ka fa sa (σ 0 8) ) (call_b hC.ts TC_X5_layClock TN_X5 TM_X9_91 hd_X5_layClock ⟨Nat.le_of_ble_eq_true rfl, Nat.le_of_ble_eq_true rfl⟩) TI_X5_layClock TS_X5_layClock (ct_shelf G _ _) rfl rfl rfl (Nat.le_of_ble_eq_true rfl) dX9_put_44 ⟨Nat.le_of_ble_eq_true rfl, Nat.le_of_ble_eq_true rfl⟩) hS (fun v_19 s_21 t_22 H locs w_20 hR hS => ?_)
          try dsimp only [po_X5_layClock] at w_20
          rcases w_20 with ⟨rfl, es_23, et_24, f_25⟩ | ⟨rfl, es_26, et_27, f_28, f_29, f_30⟩
          · skip
            rw [et_24] at hR
            refine lv_istore (lv' := [(5, .int (0 : Int32)), (0, .ref (G.2.1 0)), (1, .int pl), (2, .int ka), (3, .int fa), (4, .int sa)]) hC.x hC.b dX9_put_47 hl (by decide) rfl (fun ls hl => ?_)
            refine lv_goto (tgt := 92) hC.x hC.b dX9_put_49 (by decide) ?_
            refine lv_iload hC.x hC.b dX9_put_92 (lv_at hl 0 rfl) ?_
            refine bz_eq (tgt := 101) (a := 0) (b := 0) hC.x hC.b rfl rfl dX9_put_94 (by decide) (fun _ => ?_) (fun c_31 => absurd c_31 (by decide))
            refine lv_iconst (v := (-1)) hC.x hC.b dX9_put_101 (by decide) ?_
            exact reti hC hK hR hS (by first | exact Or.inl (⟨by subst es_23; (first | rfl | omega), by subst es_23; (first | rfl | assumption), by subst es_23; (rfl), by subst es_23; (first | omega | assumption), by subst es_23; (first | omega | assumption), by subst es_23; (first | omega | assumption)⟩) | exact Or.inr (Or.inl (⟨by subst es_23; (first | rfl | omega), by subst es_23; (first | rfl | assumption), by subst es_23; (rfl), by subst es_23; (first | omega | assumption)⟩)) | exact Or.inr (Or.inr (Or.inl (⟨by subst es_23; (first | rfl | omega), by subst es_23; (rfl), by subst es_23; (first | omega | assumption), by subst es_23; (first | omega | assumption)⟩))) | exact Or.inr (Or.inr (Or.inr ((⟨by subst es_23; (first | rfl | omega), by subst es_23; (first | rfl | assumption), by subst es_23; (rfl), by subst es_23; (first | omega | assumption)⟩)))) | exact False.elim (by omega)) dX9_put_102
          · skip
            rw [et_27] at hR
            refine lv_istore (lv' := [(5, .int (1 : Int32)), (0, .ref (G.2.1 0)), (1, .int pl), (2, .int ka), (3, .int fa), (4, .int sa)]) hC.x hC.b dX9_put_47 hl (by decide) rfl (fun ls hl => ?_)
            refine lv_goto (tgt := 92) hC.x hC.b dX9_put_49 (by decide) ?_
            refine lv_iload hC.x hC.b dX9_put_92 (lv_at hl 0 rfl) ?_
            refine bz_eq (tgt := 101) (a := 1) (b := 0) hC.x hC.b rfl rfl dX9_put_94 (by decide) (fun c_32 => absurd c_32 (by decide)) (fun _ => ?_)
            refine lv_iload_n hC.x hC.b dX9_put_97 rfl (lv_at hl 2 rfl) ?_
            refine lv_goto (tgt := 102) hC.x hC.b dX9_put_98 (by decide) ?_
            exact reti hC hK hR hS (by first | exact Or.inl (⟨by subst es_26; (first | rfl | omega), by subst es_26; (first | rfl | assumption), by subst es_26; (rfl), by subst es_26; (first | omega | assumption), by subst es_26; (first | omega | assumption), by subst es_26; (first | omega | assumption)⟩) | exact Or.inr (Or.inl (⟨by subst es_26; (first | rfl | omega), by subst es_26; (first | rfl | assumption), by subst es_26; (rfl), by subst es_26; (first | omega | assumption)⟩)) | exact Or.inr (Or.inr (Or.inl (⟨by subst es_26; (first | rfl | omega), by subst es_26; (rfl), by subst es_26; (first | omega | assumption), by subst es_26; (first | omega | assumption)⟩))) | exact Or.inr (Or.inr (Or.inr ((⟨by subst es_26; (first | rfl | omega), by subst es_26; (first | rfl | assumption), by subst es_26; (rfl), by subst es_26; (first | omega | assumption)⟩)))) | exact False.elim (by omega)) dX9_put_102
        · skip
          refine bz_eq (tgt := 52) (a := 0) (b := 0) hC.x hC.b rfl rfl dX9_put_28 (by decide) (fun _ => ?_) (fun c_33 => absurd c_33 (by decide))
          refine lv_iload_n hC.x hC.b dX9_put_52 rfl (lv_at hl 3 rfl) ?_
          refine goip (runS (As := [.int ka]) (rest := []) hC hK hR hl.1 (c_X9_isLinkKind l hG σ τ ka ) (call_b hC.ts TC_X9_isLinkKind TN_X9 TM_X9_95 hd_X9_isLinkKind ⟨Nat.le_of_ble_eq_true rfl, Nat.le_of_ble_eq_true rfl⟩) TT_X9_isLinkKind rfl rfl (Nat.le_of_ble_eq_true rfl) dX9_put_53 ⟨Nat.le_of_ble_eq_true rfl, Nat.le_of_ble_eq_true rfl⟩) hS (fun v_34 H locs w_35 hR hS => ?_)
          rcases w_35 with ⟨rfl, f_36, f_37⟩ | ⟨rfl, f_38⟩
          · skip
            refine bz_eq (tgt := 76) (a := 1) (b := 0) hC.x hC.b rfl rfl dX9_put_56 (by decide) (fun c_39 => absurd c_39 (by decide)) (fun _ => ?_)
            refine lv_aload_n hC.x hC.b dX9_put_59 rfl (lv_at hl 1 rfl) ?_
            refine rget hC hK hR (ct_bench G _ _) rfl uin_X9 0 (by decide) TF_X9_10 rfl dX9_put_60 ?_
            refine lv_iload_n hC.x hC.b dX9_put_63 rfl (lv_at hl 2 rfl) ?_
            refine lv_iload_n hC.x hC.b dX9_put_64 rfl (lv_at hl 3 rfl) ?_
            refine lv_iload_n hC.x hC.b dX9_put_65 rfl (lv_at hl 4 rfl) ?_
            refine lv_iload hC.x hC.b dX9_put_66 (lv_at hl 5 rfl) ?_
            refine goi (runV (As := [.int pl, .int ka, .int fa, .int sa]) (rest := []) hC hK hR hl.1 (c_X5_layLink l hG σ τ pl q (by first | rfl | (rw [show pl.toInt = pl.toInt from rfl]; done) | (rw [show pl.toInt = pl.toInt from rfl]; exact hp_q)) ka fa fq (by first | rfl | (rw [show fa.toInt = fa.toInt from rfl]; done) | (rw [show fa.toInt = fa.toInt from rfl]; exact hp_fq)) sa sq (by first | rfl | (rw [show sa.toInt = sa.toInt from rfl]; done) | (rw [show sa.toInt = sa.toInt from rfl]; exact hp_sq)) ) (call_b hC.ts TC_X5_layLink TN_X5 TM_X9_98 hd_X5_layLink ⟨Nat.le_of_ble_eq_true rfl, Nat.le_of_ble_eq_true rfl⟩) TI_X5_layLink TS_X5_layLink (ct_shelf G _ _) rfl rfl rfl (Nat.le_of_ble_eq_true rfl) dX9_put_68 ⟨Nat.le_of_ble_eq_true rfl, Nat.le_of_ble_eq_true rfl⟩) hS (fun v_40 s_42 t_43 H locs w_41 hR hS => ?_)
            try dsimp only [po_X5_layLink] at w_41
            rcases w_41 with ⟨rfl, es_44, et_45, f_46⟩ | ⟨rfl, et_47, f_48, f_49, f_50, f_51, f_52, f_53, f_54, f_55, f_56, f_57, f_58, f_59⟩
            · skip
              rw [et_45] at hR
              refine lv_istore (lv' := [(5, .int (0 : Int32)), (0, .ref (G.2.1 0)), (1, .int pl), (2, .int ka), (3, .int fa), (4, .int sa)]) hC.x hC.b dX9_put_71 hl (by decide) rfl (fun ls hl => ?_)
              refine lv_goto (tgt := 92) hC.x hC.b dX9_put_73 (by decide) ?_
              refine lv_iload hC.x hC.b dX9_put_92 (lv_at hl 0 rfl) ?_
              refine bz_eq (tgt := 101) (a := 0) (b := 0) hC.x hC.b rfl rfl dX9_put_94 (by decide) (fun _ => ?_) (fun c_60 => absurd c_60 (by decide))
              refine lv_iconst (v := (-1)) hC.x hC.b dX9_put_101 (by decide) ?_
              exact reti hC hK hR hS (by first | exact Or.inl (⟨by subst es_44; (first | rfl | omega), by subst es_44; (first | rfl | assumption), by subst es_44; (rfl), by subst es_44; (first | omega | assumption), by subst es_44; (first | omega | assumption), by subst es_44; (first | omega | assumption)⟩) | exact Or.inr (Or.inl (⟨by subst es_44; (first | rfl | omega), by subst es_44; (first | rfl | assumption), by subst es_44; (rfl), by subst es_44; (first | omega | assumption)⟩)) | exact Or.inr (Or.inr (Or.inl (⟨by subst es_44; (first | rfl | omega), by subst es_44; (rfl), by subst es_44; (first | omega | assumption), by subst es_44; (first | omega | assumption)⟩))) | exact Or.inr (Or.inr (Or.inr ((⟨by subst es_44; (first | rfl | omega), by subst es_44; (first | rfl | assumption), by subst es_44; (rfl), by subst es_44; (first | omega | assumption)⟩)))) | exact False.elim (by omega)) dX9_put_102
            · skip
              rw [et_47] at hR
              refine lv_istore (lv' := [(5, .int (1 : Int32)), (0, .ref (G.2.1 0)), (1, .int pl), (2, .int ka), (3, .int fa), (4, .int sa)]) hC.x hC.b dX9_put_71 hl (by decide) rfl (fun ls hl => ?_)
              refine lv_goto (tgt := 92) hC.x hC.b dX9_put_73 (by decide) ?_
              refine lv_iload hC.x hC.b dX9_put_92 (lv_at hl 0 rfl) ?_
              refine bz_eq (tgt := 101) (a := 1) (b := 0) hC.x hC.b rfl rfl dX9_put_94 (by decide) (fun c_61 => absurd c_61 (by decide)) (fun _ => ?_)
              refine lv_iload_n hC.x hC.b dX9_put_97 rfl (lv_at hl 2 rfl) ?_
              refine lv_goto (tgt := 102) hC.x hC.b dX9_put_98 (by decide) ?_
              exact reti hC hK hR hS (by first | exact Or.inl (⟨by first | rfl | omega, by first | rfl | assumption, by rfl, by first | omega | assumption, by first | omega | assumption, by first | omega | assumption⟩) | exact Or.inr (Or.inl (⟨by first | rfl | omega, by first | rfl | assumption, by rfl, by first | omega | assumption⟩)) | exact Or.inr (Or.inr (Or.inl (⟨by first | rfl | omega, by rfl, by first | omega | assumption, by first | omega | assumption⟩))) | exact Or.inr (Or.inr (Or.inr ((⟨by first | rfl | omega, by first | rfl | assumption, by rfl, by first | omega | assumption⟩)))) | exact False.elim (by omega)) dX9_put_102
          · skip
            refine bz_eq (tgt := 76) (a := 0) (b := 0) hC.x hC.b rfl rfl dX9_put_56 (by decide) (fun _ => ?_) (fun c_62 => absurd c_62 (by decide))
            refine lv_iload_n hC.x hC.b dX9_put_76 rfl (lv_at hl 3 rfl) ?_
            refine lv_bipush (v := 7) hC.x hC.b dX9_put_77 (by decide) ?_
            refine bi_ne (tgt := 92) (a := ka.toInt) (b := 7) hC.x hC.b rfl rfl dX9_put_79 (by decide) (fun c_63 => ?_) (fun c_63 => ?_)
            · skip
              refine lv_iload hC.x hC.b dX9_put_92 (lv_at hl 0 rfl) ?_
              refine bz_eq (tgt := 101) (a := 0) (b := 0) hC.x hC.b rfl rfl dX9_put_94 (by decide) (fun _ => ?_) (fun c_64 => absurd c_64 (by decide))
              refine lv_iconst (v := (-1)) hC.x hC.b dX9_put_101 (by decide) ?_
              exact reti hC hK hR hS (by first | exact Or.inl (⟨by first | rfl | omega, by first | rfl | assumption, by rfl, by first | omega | assumption, by first | omega | assumption, by first | omega | assumption⟩) | exact Or.inr (Or.inl (⟨by first | rfl | omega, by first | rfl | assumption, by rfl, by first | omega | assumption⟩)) | exact Or.inr (Or.inr (Or.inl (⟨by first | rfl | omega, by rfl, by first | omega | assumption, by first | omega | assumption⟩))) | exact Or.inr (Or.inr (Or.inr ((⟨by first | rfl | omega, by first | rfl | assumption, by rfl, by first | omega | assumption⟩)))) | exact False.elim (by omega)) dX9_put_102
            · skip
              refine lv_aload_n hC.x hC.b dX9_put_82 rfl (lv_at hl 1 rfl) ?_
              refine rget hC hK hR (ct_bench G _ _) rfl uin_X9 0 (by decide) TF_X9_10 rfl dX9_put_83 ?_
              refine lv_iload_n hC.x hC.b dX9_put_86 rfl (lv_at hl 2 rfl) ?_
              refine goi (runV (As := [.int pl]) (rest := []) hC hK hR hl.1 (c_X5_layLamp l hG σ τ pl q (by first | rfl | (rw [show pl.toInt = pl.toInt from rfl]; done) | (rw [show pl.toInt = pl.toInt from rfl]; exact hp_q)) ) (call_b hC.ts TC_X5_layLamp TN_X5 TM_X9_102 hd_X5_layLamp ⟨Nat.le_of_ble_eq_true rfl, Nat.le_of_ble_eq_true rfl⟩) TI_X5_layLamp TS_X5_layLamp (ct_shelf G _ _) rfl rfl rfl (Nat.le_of_ble_eq_true rfl) dX9_put_87 ⟨Nat.le_of_ble_eq_true rfl, Nat.le_of_ble_eq_true rfl⟩) hS (fun v_65 s_67 t_68 H locs w_66 hR hS => ?_)
              try dsimp only [po_X5_layLamp] at w_66
              rcases w_66 with ⟨rfl, es_69, et_70, f_71, f_72⟩ | ⟨rfl, es_73, et_74, f_75⟩
              · skip
                rw [et_70] at hR
                refine lv_istore (lv' := [(5, .int (1 : Int32)), (0, .ref (G.2.1 0)), (1, .int pl), (2, .int ka), (3, .int fa), (4, .int sa)]) hC.x hC.b dX9_put_90 hl (by decide) rfl (fun ls hl => ?_)
                refine lv_iload hC.x hC.b dX9_put_92 (lv_at hl 0 rfl) ?_
                refine bz_eq (tgt := 101) (a := 1) (b := 0) hC.x hC.b rfl rfl dX9_put_94 (by decide) (fun c_76 => absurd c_76 (by decide)) (fun _ => ?_)
                refine lv_iload_n hC.x hC.b dX9_put_97 rfl (lv_at hl 2 rfl) ?_
                refine lv_goto (tgt := 102) hC.x hC.b dX9_put_98 (by decide) ?_
                exact reti hC hK hR hS (by first | exact Or.inl (⟨by subst es_69; (first | rfl | omega), by subst es_69; (first | rfl | assumption), by subst es_69; (rfl), by subst es_69; (first | omega | assumption), by subst es_69; (first | omega | assumption), by subst es_69; (first | omega | assumption)⟩) | exact Or.inr (Or.inl (⟨by subst es_69; (first | rfl | omega), by subst es_69; (first | rfl | assumption), by subst es_69; (rfl), by subst es_69; (first | omega | assumption)⟩)) | exact Or.inr (Or.inr (Or.inl (⟨by subst es_69; (first | rfl | omega), by subst es_69; (rfl), by subst es_69; (first | omega | assumption), by subst es_69; (first | omega | assumption)⟩))) | exact Or.inr (Or.inr (Or.inr ((⟨by subst es_69; (first | rfl | omega), by subst es_69; (first | rfl | assumption), by subst es_69; (rfl), by subst es_69; (first | omega | assumption)⟩)))) | exact False.elim (by omega)) dX9_put_102
              · skip
                rw [et_74] at hR
                refine lv_istore (lv' := [(5, .int (0 : Int32)), (0, .ref (G.2.1 0)), (1, .int pl), (2, .int ka), (3, .int fa), (4, .int sa)]) hC.x hC.b dX9_put_90 hl (by decide) rfl (fun ls hl => ?_)
                refine lv_iload hC.x hC.b dX9_put_92 (lv_at hl 0 rfl) ?_
                refine bz_eq (tgt := 101) (a := 0) (b := 0) hC.x hC.b rfl rfl dX9_put_94 (by decide) (fun _ => ?_) (fun c_77 => absurd c_77 (by decide))
                refine lv_iconst (v := (-1)) hC.x hC.b dX9_put_101 (by decide) ?_
                exact reti hC hK hR hS (by first | exact Or.inl (⟨by subst es_73; (first | rfl | omega), by subst es_73; (first | rfl | assumption), by subst es_73; (rfl), by subst es_73; (first | omega | assumption), by subst es_73; (first | omega | assumption), by subst es_73; (first | omega | assumption)⟩) | exact Or.inr (Or.inl (⟨by subst es_73; (first | rfl | omega), by subst es_73; (first | rfl | assumption), by subst es_73; (rfl), by subst es_73; (first | omega | assumption)⟩)) | exact Or.inr (Or.inr (Or.inl (⟨by subst es_73; (first | rfl | omega), by subst es_73; (rfl), by subst es_73; (first | omega | assumption), by subst es_73; (first | omega | assumption)⟩))) | exact Or.inr (Or.inr (Or.inr ((⟨by subst es_73; (first | rfl | omega), by subst es_73; (first | rfl | assumption), by subst es_73; (rfl), by subst es_73; (first | omega | assumption)⟩)))) | exact False.elim (by omega)) dX9_put_102
      · skip
        refine lv_iconst (v := (-1)) hC.x hC.b dX9_put_19 (by decide) ?_
        exact reti hC hK hR hS (by first | exact Or.inl (⟨by first | rfl | omega, by first | rfl | assumption, by rfl, by first | omega | assumption, by first | omega | assumption, by first | omega | assumption⟩) | exact Or.inr (Or.inl (⟨by first | rfl | omega, by first | rfl | assumption, by rfl, by first | omega | assumption⟩)) | exact Or.inr (Or.inr (Or.inl (⟨by first | rfl | omega, by rfl, by first | omega | assumption, by first | omega | assumption⟩))) | exact Or.inr (Or.inr (Or.inr ((⟨by first | rfl | omega, by first | rfl | assumption, by rfl, by first | omega | assumption⟩)))) | exact False.elim (by omega)) dX9_put_20
    · skip
      refine lv_iconst (v := (-1)) hC.x hC.b dX9_put_15 (by decide) ?_
      refine bi_eq (tgt := 21) (a := (-1)) (b := (-1)) hC.x hC.b rfl rfl dX9_put_16 (by decide) (fun _ => ?_) (fun c_78 => absurd c_78 (by decide))
      refine lv_iconst (v := 0) hC.x hC.b dX9_put_21 (by decide) ?_
      refine lv_istore (lv' := [(5, .int (0 : Int32)), (0, .ref (G.2.1 0)), (1, .int pl), (2, .int ka), (3, .int fa), (4, .int sa)]) hC.x hC.b dX9_put_22 hl (by decide) rfl (fun ls hl => ?_)
      refine lv_iload_n hC.x hC.b dX9_put_24 rfl (lv_at hl 3 rfl) ?_
      refine goip (runS (As := [.int ka]) (rest := []) hC hK hR hl.1 (c_X9_isClockKind l hG σ τ ka ) (call_b hC.ts TC_X9_isClockKind TN_X9 TM_X9_88 hd_X9_isClockKind ⟨Nat.le_of_ble_eq_true rfl, Nat.le_of_ble_eq_true rfl⟩) TT_X9_isClockKind rfl rfl (Nat.le_of_ble_eq_true rfl) dX9_put_25 ⟨Nat.le_of_ble_eq_true rfl, Nat.le_of_ble_eq_true rfl⟩) hS (fun v_79 H locs w_80 hR hS => ?_)
      rcases w_80 with ⟨rfl, f_81, f_82⟩ | ⟨rfl, f_83⟩
      · skip
        refine bz_eq (tgt := 52) (a := 1) (b := 0) hC.x hC.b rfl rfl dX9_put_28 (by decide) (fun c_84 => absurd c_84 (by decide)) (fun _ => ?_)
        refine lv_aload_n hC.x hC.b dX9_put_31 rfl (lv_at hl 1 rfl) ?_
        refine rget hC hK hR (ct_bench G _ _) rfl uin_X9 0 (by decide) TF_X9_10 rfl dX9_put_32 ?_
        refine lv_iload_n hC.x hC.b dX9_put_35 rfl (lv_at hl 2 rfl) ?_
        refine lv_iload_n hC.x hC.b dX9_put_36 rfl (lv_at hl 3 rfl) ?_
        refine lv_iload_n hC.x hC.b dX9_put_37 rfl (lv_at hl 4 rfl) ?_
        refine lv_iload hC.x hC.b dX9_put_38 (lv_at hl 5 rfl) ?_
        refine lv_aload_n hC.x hC.b dX9_put_40 rfl (lv_at hl 1 rfl) ?_
        refine rget hC hK hR (ct_bench G _ _) rfl uin_X9 8 (by decide) TF_X9_65 rfl dX9_put_41 ?_
        refine goi (runV (As := [.int pl, .int ka, .int fa, .int sa, .int (σ 0 8)]) (rest := []) hC hK hR hl.1 (c_X5_layClock l hG σ τ pl q (by first | rfl | (rw [show pl.toInt = pl.toInt from rfl]; done) | (rw [show pl.toInt = pl.toInt from rfl]; exact hp_q)) ka fa sa (σ 0 8) ) (call_b hC.ts TC_X5_layClock TN_X5 TM_X9_91 hd_X5_layClock ⟨Nat.le_of_ble_eq_true rfl, Nat.le_of_ble_eq_true rfl⟩) TI_X5_layClock TS_X5_layClock (ct_shelf G _ _) rfl rfl rfl (Nat.le_of_ble_eq_true rfl) dX9_put_44 ⟨Nat.le_of_ble_eq_true rfl, Nat.le_of_ble_eq_true rfl⟩) hS (fun v_85 s_87 t_88 H locs w_86 hR hS => ?_)
        try dsimp only [po_X5_layClock] at w_86
        rcases w_86 with ⟨rfl, es_89, et_90, f_91⟩ | ⟨rfl, es_92, et_93, f_94, f_95, f_96⟩
        · skip
          rw [et_90] at hR
          refine lv_istore (lv' := [(5, .int (0 : Int32)), (0, .ref (G.2.1 0)), (1, .int pl), (2, .int ka), (3, .int fa), (4, .int sa)]) hC.x hC.b dX9_put_47 hl (by decide) rfl (fun ls hl => ?_)
          refine lv_goto (tgt := 92) hC.x hC.b dX9_put_49 (by decide) ?_
          refine lv_iload hC.x hC.b dX9_put_92 (lv_at hl 0 rfl) ?_
          refine bz_eq (tgt := 101) (a := 0) (b := 0) hC.x hC.b rfl rfl dX9_put_94 (by decide) (fun _ => ?_) (fun c_97 => absurd c_97 (by decide))
          refine lv_iconst (v := (-1)) hC.x hC.b dX9_put_101 (by decide) ?_
          exact reti hC hK hR hS (by first | exact Or.inl (⟨by subst es_89; (first | rfl | omega), by subst es_89; (first | rfl | assumption), by subst es_89; (rfl), by subst es_89; (first | omega | assumption), by subst es_89; (first | omega | assumption), by subst es_89; (first | omega | assumption)⟩) | exact Or.inr (Or.inl (⟨by subst es_89; (first | rfl | omega), by subst es_89; (first | rfl | assumption), by subst es_89; (rfl), by subst es_89; (first | omega | assumption)⟩)) | exact Or.inr (Or.inr (Or.inl (⟨by subst es_89; (first | rfl | omega), by subst es_89; (rfl), by subst es_89; (first | omega | assumption), by subst es_89; (first | omega | assumption)⟩))) | exact Or.inr (Or.inr (Or.inr ((⟨by subst es_89; (first | rfl | omega), by subst es_89; (first | rfl | assumption), by subst es_89; (rfl), by subst es_89; (first | omega | assumption)⟩)))) | exact False.elim (by omega)) dX9_put_102
        · skip
          rw [et_93] at hR
          refine lv_istore (lv' := [(5, .int (1 : Int32)), (0, .ref (G.2.1 0)), (1, .int pl), (2, .int ka), (3, .int fa), (4, .int sa)]) hC.x hC.b dX9_put_47 hl (by decide) rfl (fun ls hl => ?_)
          refine lv_goto (tgt := 92) hC.x hC.b dX9_put_49 (by decide) ?_
          refine lv_iload hC.x hC.b dX9_put_92 (lv_at hl 0 rfl) ?_
          refine bz_eq (tgt := 101) (a := 1) (b := 0) hC.x hC.b rfl rfl dX9_put_94 (by decide) (fun c_98 => absurd c_98 (by decide)) (fun _ => ?_)
          refine lv_iload_n hC.x hC.b dX9_put_97 rfl (lv_at hl 2 rfl) ?_
          refine lv_goto (tgt := 102) hC.x hC.b dX9_put_98 (by decide) ?_
          exact reti hC hK hR hS (by first | exact Or.inl (⟨by subst es_92; (first | rfl | omega), by subst es_92; (first | rfl | assumption), by subst es_92; (rfl), by subst es_92; (first | omega | assumption), by subst es_92; (first | omega | assumption), by subst es_92; (first | omega | assumption)⟩) | exact Or.inr (Or.inl (⟨by subst es_92; (first | rfl | omega), by subst es_92; (first | rfl | assumption), by subst es_92; (rfl), by subst es_92; (first | omega | assumption)⟩)) | exact Or.inr (Or.inr (Or.inl (⟨by subst es_92; (first | rfl | omega), by subst es_92; (rfl), by subst es_92; (first | omega | assumption), by subst es_92; (first | omega | assumption)⟩))) | exact Or.inr (Or.inr (Or.inr ((⟨by subst es_92; (first | rfl | omega), by subst es_92; (first | rfl | assumption), by subst es_92; (rfl), by subst es_92; (first | omega | assumption)⟩)))) | exact False.elim (by omega)) dX9_put_102
      · skip
        refine bz_eq (tgt := 52) (a := 0) (b := 0) hC.x hC.b rfl rfl dX9_put_28 (by decide) (fun _ => ?_) (fun c_99 => absurd c_99 (by decide))
        refine lv_iload_n hC.x hC.b dX9_put_52 rfl (lv_at hl 3 rfl) ?_
        refine goip (runS (As := [.int ka]) (rest := []) hC hK hR hl.1 (c_X9_isLinkKind l hG σ τ ka ) (call_b hC.ts TC_X9_isLinkKind TN_X9 TM_X9_95 hd_X9_isLinkKind ⟨Nat.le_of_ble_eq_true rfl, Nat.le_of_ble_eq_true rfl⟩) TT_X9_isLinkKind rfl rfl (Nat.le_of_ble_eq_true rfl) dX9_put_53 ⟨Nat.le_of_ble_eq_true rfl, Nat.le_of_ble_eq_true rfl⟩) hS (fun v_100 H locs w_101 hR hS => ?_)
        rcases w_101 with ⟨rfl, f_102, f_103⟩ | ⟨rfl, f_104⟩
        · skip
          refine bz_eq (tgt := 76) (a := 1) (b := 0) hC.x hC.b rfl rfl dX9_put_56 (by decide) (fun c_105 => absurd c_105 (by decide)) (fun _ => ?_)
          refine lv_aload_n hC.x hC.b dX9_put_59 rfl (lv_at hl 1 rfl) ?_
          refine rget hC hK hR (ct_bench G _ _) rfl uin_X9 0 (by decide) TF_X9_10 rfl dX9_put_60 ?_
          refine lv_iload_n hC.x hC.b dX9_put_63 rfl (lv_at hl 2 rfl) ?_
          refine lv_iload_n hC.x hC.b dX9_put_64 rfl (lv_at hl 3 rfl) ?_
          refine lv_iload_n hC.x hC.b dX9_put_65 rfl (lv_at hl 4 rfl) ?_
          refine lv_iload hC.x hC.b dX9_put_66 (lv_at hl 5 rfl) ?_
          refine goi (runV (As := [.int pl, .int ka, .int fa, .int sa]) (rest := []) hC hK hR hl.1 (c_X5_layLink l hG σ τ pl q (by first | rfl | (rw [show pl.toInt = pl.toInt from rfl]; done) | (rw [show pl.toInt = pl.toInt from rfl]; exact hp_q)) ka fa fq (by first | rfl | (rw [show fa.toInt = fa.toInt from rfl]; done) | (rw [show fa.toInt = fa.toInt from rfl]; exact hp_fq)) sa sq (by first | rfl | (rw [show sa.toInt = sa.toInt from rfl]; done) | (rw [show sa.toInt = sa.toInt from rfl]; exact hp_sq)) ) (call_b hC.ts TC_X5_layLink TN_X5 TM_X9_98 hd_X5_layLink ⟨Nat.le_of_ble_eq_true rfl, Nat.le_of_ble_eq_true rfl⟩) TI_X5_layLink TS_X5_layLink (ct_shelf G _ _) rfl rfl rfl (Nat.le_of_ble_eq_true rfl) dX9_put_68 ⟨Nat.le_of_ble_eq_true rfl, Nat.le_of_ble_eq_true rfl⟩) hS (fun v_106 s_108 t_109 H locs w_107 hR hS => ?_)
          try dsimp only [po_X5_layLink] at w_107
          rcases w_107 with ⟨rfl, es_110, et_111, f_112⟩ | ⟨rfl, et_113, f_114, f_115, f_116, f_117, f_118, f_119, f_120, f_121, f_122, f_123, f_124, f_125⟩
          · skip
            rw [et_111] at hR
            refine lv_istore (lv' := [(5, .int (0 : Int32)), (0, .ref (G.2.1 0)), (1, .int pl), (2, .int ka), (3, .int fa), (4, .int sa)]) hC.x hC.b dX9_put_71 hl (by decide) rfl (fun ls hl => ?_)
            refine lv_goto (tgt := 92) hC.x hC.b dX9_put_73 (by decide) ?_
            refine lv_iload hC.x hC.b dX9_put_92 (lv_at hl 0 rfl) ?_
            refine bz_eq (tgt := 101) (a := 0) (b := 0) hC.x hC.b rfl rfl dX9_put_94 (by decide) (fun _ => ?_) (fun c_126 => absurd c_126 (by decide))
            refine lv_iconst (v := (-1)) hC.x hC.b dX9_put_101 (by decide) ?_
            exact reti hC hK hR hS (by first | exact Or.inl (⟨by subst es_110; (first | rfl | omega), by subst es_110; (first | rfl | assumption), by subst es_110; (rfl), by subst es_110; (first | omega | assumption), by subst es_110; (first | omega | assumption), by subst es_110; (first | omega | assumption)⟩) | exact Or.inr (Or.inl (⟨by subst es_110; (first | rfl | omega), by subst es_110; (first | rfl | assumption), by subst es_110; (rfl), by subst es_110; (first | omega | assumption)⟩)) | exact Or.inr (Or.inr (Or.inl (⟨by subst es_110; (first | rfl | omega), by subst es_110; (rfl), by subst es_110; (first | omega | assumption), by subst es_110; (first | omega | assumption)⟩))) | exact Or.inr (Or.inr (Or.inr ((⟨by subst es_110; (first | rfl | omega), by subst es_110; (first | rfl | assumption), by subst es_110; (rfl), by subst es_110; (first | omega | assumption)⟩)))) | exact False.elim (by omega)) dX9_put_102
          · skip
            rw [et_113] at hR
            refine lv_istore (lv' := [(5, .int (1 : Int32)), (0, .ref (G.2.1 0)), (1, .int pl), (2, .int ka), (3, .int fa), (4, .int sa)]) hC.x hC.b dX9_put_71 hl (by decide) rfl (fun ls hl => ?_)
            refine lv_goto (tgt := 92) hC.x hC.b dX9_put_73 (by decide) ?_
            refine lv_iload hC.x hC.b dX9_put_92 (lv_at hl 0 rfl) ?_
            refine bz_eq (tgt := 101) (a := 1) (b := 0) hC.x hC.b rfl rfl dX9_put_94 (by decide) (fun c_127 => absurd c_127 (by decide)) (fun _ => ?_)
            refine lv_iload_n hC.x hC.b dX9_put_97 rfl (lv_at hl 2 rfl) ?_
            refine lv_goto (tgt := 102) hC.x hC.b dX9_put_98 (by decide) ?_
            exact reti hC hK hR hS (by first | exact Or.inl (⟨by first | rfl | omega, by first | rfl | assumption, by rfl, by first | omega | assumption, by first | omega | assumption, by first | omega | assumption⟩) | exact Or.inr (Or.inl (⟨by first | rfl | omega, by first | rfl | assumption, by rfl, by first | omega | assumption⟩)) | exact Or.inr (Or.inr (Or.inl (⟨by first | rfl | omega, by rfl, by first | omega | assumption, by first | omega | assumption⟩))) | exact Or.inr (Or.inr (Or.inr ((⟨by first | rfl | omega, by first | rfl | assumption, by rfl, by first | omega | assumption⟩)))) | exact False.elim (by omega)) dX9_put_102
        · skip
          refine bz_eq (tgt := 76) (a := 0) (b := 0) hC.x hC.b rfl rfl dX9_put_56 (by decide) (fun _ => ?_) (fun c_128 => absurd c_128 (by decide))
          refine lv_iload_n hC.x hC.b dX9_put_76 rfl (lv_at hl 3 rfl) ?_
          refine lv_bipush (v := 7) hC.x hC.b dX9_put_77 (by decide) ?_
          refine bi_ne (tgt := 92) (a := ka.toInt) (b := 7) hC.x hC.b rfl rfl dX9_put_79 (by decide) (fun c_129 => ?_) (fun c_129 => ?_)
          · skip
            refine lv_iload hC.x hC.b dX9_put_92 (lv_at hl 0 rfl) ?_
            refine bz_eq (tgt := 101) (a := 0) (b := 0) hC.x hC.b rfl rfl dX9_put_94 (by decide) (fun _ => ?_) (fun c_130 => absurd c_130 (by decide))
            refine lv_iconst (v := (-1)) hC.x hC.b dX9_put_101 (by decide) ?_
            exact reti hC hK hR hS (by first | exact Or.inl (⟨by first | rfl | omega, by first | rfl | assumption, by rfl, by first | omega | assumption, by first | omega | assumption, by first | omega | assumption⟩) | exact Or.inr (Or.inl (⟨by first | rfl | omega, by first | rfl | assumption, by rfl, by first | omega | assumption⟩)) | exact Or.inr (Or.inr (Or.inl (⟨by first | rfl | omega, by rfl, by first | omega | assumption, by first | omega | assumption⟩))) | exact Or.inr (Or.inr (Or.inr ((⟨by first | rfl | omega, by first | rfl | assumption, by rfl, by first | omega | assumption⟩)))) | exact False.elim (by omega)) dX9_put_102
          · skip
            refine lv_aload_n hC.x hC.b dX9_put_82 rfl (lv_at hl 1 rfl) ?_
            refine rget hC hK hR (ct_bench G _ _) rfl uin_X9 0 (by decide) TF_X9_10 rfl dX9_put_83 ?_
            refine lv_iload_n hC.x hC.b dX9_put_86 rfl (lv_at hl 2 rfl) ?_
            refine goi (runV (As := [.int pl]) (rest := []) hC hK hR hl.1 (c_X5_layLamp l hG σ τ pl q (by first | rfl | (rw [show pl.toInt = pl.toInt from rfl]; done) | (rw [show pl.toInt = pl.toInt from rfl]; exact hp_q)) ) (call_b hC.ts TC_X5_layLamp TN_X5 TM_X9_102 hd_X5_layLamp ⟨Nat.le_of_ble_eq_true rfl, Nat.le_of_ble_eq_true rfl⟩) TI_X5_layLamp TS_X5_layLamp (ct_shelf G _ _) rfl rfl rfl (Nat.le_of_ble_eq_true rfl) dX9_put_87 ⟨Nat.le_of_ble_eq_true rfl, Nat.le_of_ble_eq_true rfl⟩) hS (fun v_131 s_133 t_134 H locs w_132 hR hS => ?_)
            try dsimp only [po_X5_layLamp] at w_132
            rcases w_132 with ⟨rfl, es_135, et_136, f_137, f_138⟩ | ⟨rfl, es_139, et_140, f_141⟩
            · skip
              rw [et_136] at hR
              refine lv_istore (lv' := [(5, .int (1 : Int32)), (0, .ref (G.2.1 0)), (1, .int pl), (2, .int ka), (3, .int fa), (4, .int sa)]) hC.x hC.b dX9_put_90 hl (by decide) rfl (fun ls hl => ?_)
              refine lv_iload hC.x hC.b dX9_put_92 (lv_at hl 0 rfl) ?_
              refine bz_eq (tgt := 101) (a := 1) (b := 0) hC.x hC.b rfl rfl dX9_put_94 (by decide) (fun c_142 => absurd c_142 (by decide)) (fun _ => ?_)
              refine lv_iload_n hC.x hC.b dX9_put_97 rfl (lv_at hl 2 rfl) ?_
              refine lv_goto (tgt := 102) hC.x hC.b dX9_put_98 (by decide) ?_
              exact reti hC hK hR hS (by first | exact Or.inl (⟨by subst es_135; (first | rfl | omega), by subst es_135; (first | rfl | assumption), by subst es_135; (rfl), by subst es_135; (first | omega | assumption), by subst es_135; (first | omega | assumption), by subst es_135; (first | omega | assumption)⟩) | exact Or.inr (Or.inl (⟨by subst es_135; (first | rfl | omega), by subst es_135; (first | rfl | assumption), by subst es_135; (rfl), by subst es_135; (first | omega | assumption)⟩)) | exact Or.inr (Or.inr (Or.inl (⟨by subst es_135; (first | rfl | omega), by subst es_135; (rfl), by subst es_135; (first | omega | assumption), by subst es_135; (first | omega | assumption)⟩))) | exact Or.inr (Or.inr (Or.inr ((⟨by subst es_135; (first | rfl | omega), by subst es_135; (first | rfl | assumption), by subst es_135; (rfl), by subst es_135; (first | omega | assumption)⟩)))) | exact False.elim (by omega)) dX9_put_102
            · skip
              rw [et_140] at hR
              refine lv_istore (lv' := [(5, .int (0 : Int32)), (0, .ref (G.2.1 0)), (1, .int pl), (2, .int ka), (3, .int fa), (4, .int sa)]) hC.x hC.b dX9_put_90 hl (by decide) rfl (fun ls hl => ?_)
              refine lv_iload hC.x hC.b dX9_put_92 (lv_at hl 0 rfl) ?_
              refine bz_eq (tgt := 101) (a := 0) (b := 0) hC.x hC.b rfl rfl dX9_put_94 (by decide) (fun _ => ?_) (fun c_143 => absurd c_143 (by decide))
              refine lv_iconst (v := (-1)) hC.x hC.b dX9_put_101 (by decide) ?_
              exact reti hC hK hR hS (by first | exact Or.inl (⟨by subst es_139; (first | rfl | omega), by subst es_139; (first | rfl | assumption), by subst es_139; (rfl), by subst es_139; (first | omega | assumption), by subst es_139; (first | omega | assumption), by subst es_139; (first | omega | assumption)⟩) | exact Or.inr (Or.inl (⟨by subst es_139; (first | rfl | omega), by subst es_139; (first | rfl | assumption), by subst es_139; (rfl), by subst es_139; (first | omega | assumption)⟩)) | exact Or.inr (Or.inr (Or.inl (⟨by subst es_139; (first | rfl | omega), by subst es_139; (rfl), by subst es_139; (first | omega | assumption), by subst es_139; (first | omega | assumption)⟩))) | exact Or.inr (Or.inr (Or.inr ((⟨by subst es_139; (first | rfl | omega), by subst es_139; (first | rfl | assumption), by subst es_139; (rfl), by subst es_139; (first | omega | assumption)⟩)))) | exact False.elim (by omega)) dX9_put_102
  · skip
    refine bz_eq (tgt := 19) (a := 0) (b := 0) hC.x hC.b rfl rfl dX9_put_4 (by decide) (fun _ => ?_) (fun c_144 => absurd c_144 (by decide))
    refine lv_iconst (v := (-1)) hC.x hC.b dX9_put_19 (by decide) ?_
    exact reti hC hK hR hS (by first | exact Or.inl (⟨by first | rfl | omega, by first | rfl | assumption, by rfl, by first | omega | assumption, by first | omega | assumption, by first | omega | assumption⟩) | exact Or.inr (Or.inl (⟨by first | rfl | omega, by first | rfl | assumption, by rfl, by first | omega | assumption⟩)) | exact Or.inr (Or.inr (Or.inl (⟨by first | rfl | omega, by rfl, by first | omega | assumption, by first | omega | assumption⟩))) | exact Or.inr (Or.inr (Or.inr ((⟨by first | rfl | omega, by first | rfl | assumption, by rfl, by first | omega | assumption⟩)))) | exact False.elim (by omega)) dX9_put_20

abbrev po_X9_lift (σ : SI) (τ : SL) (pl : Int32) (q : Nat) : Int32 → SI × SL → Prop := fun v u => ((v = (-2)) ∧ (u.1 = σ) ∧ (u.2 = τ) ∧ (hasLk σ pl) ∧ (0 ≤ pl.toInt ∧ pl.toInt < 24) ∧ (0 ≤ (σ 2 q).toInt ∧ (σ 2 q).toInt ≤ 3)) ∨ ((v = σ 2 q) ∧ (u.1 = up2 σ 2 q (-1)) ∧ (u.2 = τ) ∧ (0 ≤ pl.toInt ∧ pl.toInt < 24) ∧ (¬ hasLk σ pl ∨ ¬ (0 ≤ pl.toInt ∧ pl.toInt < 24 ∧ 0 ≤ (σ 2 q).toInt ∧ (σ 2 q).toInt ≤ 3))) ∨ ((v = (-1)) ∧ (u.1 = σ) ∧ (u.2 = τ) ∧ (¬ (0 ≤ pl.toInt ∧ pl.toInt < 24)))
set_option maxRecDepth 100000 in
set_option maxHeartbeats 4000000 in
theorem c_X9_lift (l : Launch) {G : Gx} {A : Nat → Prop} (hG : GOk G A) (σ : SI) (τ : SL) (pl : Int32) (q : Nat) (hp_q : pl.toInt.toNat = q) : MI l G A 3 yX9_lift cX9_lift 3 (some .int) [.ref (G.2.1 0), .int pl] (σ, τ) (po_X9_lift σ τ pl q) := by
  refine met_of (own := RX9) (by decide +kernel) rfl [(0, .ref (G.2.1 0)), (1, .int pl)] rfl (Nat.le_of_ble_eq_true rfl) ?_
  intro p e s m args below meth c ls hC hK hR hl
  have hS : va_S A s.heap s.heap [] := va_S.rf
  refine lv_aload_n hC.x hC.b dX9_lift_0 rfl (lv_at hl 0 rfl) ?_
  refine rget hC hK hR (ct_bench G _ _) rfl uin_X9 0 (by decide) TF_X9_10 rfl dX9_lift_1 ?_
  refine lv_iload_n hC.x hC.b dX9_lift_4 rfl (lv_at hl 1 rfl) ?_
  refine goip (runV (As := [.int pl]) (rest := []) hC hK hR hl.1 (c_X5_kindAt l hG σ τ pl q (by first | rfl | (rw [show pl.toInt = pl.toInt from rfl]; done) | (rw [show pl.toInt = pl.toInt from rfl]; exact hp_q)) ) (call_b hC.ts TC_X5_kindAt TN_X5 TM_X9_84 hd_X5_kindAt ⟨Nat.le_of_ble_eq_true rfl, Nat.le_of_ble_eq_true rfl⟩) TI_X5_kindAt TS_X5_kindAt (ct_shelf G _ _) rfl rfl rfl (Nat.le_of_ble_eq_true rfl) dX9_lift_5 ⟨Nat.le_of_ble_eq_true rfl, Nat.le_of_ble_eq_true rfl⟩) hS (fun v_1 H locs w_2 hR hS => ?_)
  rcases w_2 with ⟨rfl, f_3, f_4⟩ | ⟨rfl, f_5⟩
  · skip
    refine lv_istore_n (lv' := [(2, .int (σ 2 q)), (0, .ref (G.2.1 0)), (1, .int pl)]) hC.x hC.b dX9_lift_8 rfl hl (by decide) rfl (fun ls hl => ?_)
    refine lv_aload_n hC.x hC.b dX9_lift_9 rfl (lv_at hl 1 rfl) ?_
    refine rget hC hK hR (ct_bench G _ _) rfl uin_X9 0 (by decide) TF_X9_10 rfl dX9_lift_10 ?_
    refine lv_iload_n hC.x hC.b dX9_lift_13 rfl (lv_at hl 2 rfl) ?_
    refine goip (runV (As := [.int pl]) (rest := []) hC hK hR hl.1 (c_X5_hasLinkOf l hG σ τ pl q (by first | rfl | (rw [show pl.toInt = pl.toInt from rfl]; done) | (rw [show pl.toInt = pl.toInt from rfl]; exact hp_q)) ) (call_b hC.ts TC_X5_hasLinkOf TN_X5 TM_X9_105 hd_X5_hasLinkOf ⟨Nat.le_of_ble_eq_true rfl, Nat.le_of_ble_eq_true rfl⟩) TI_X5_hasLinkOf TS_X5_hasLinkOf (ct_shelf G _ _) rfl rfl rfl (Nat.le_of_ble_eq_true rfl) dX9_lift_14 ⟨Nat.le_of_ble_eq_true rfl, Nat.le_of_ble_eq_true rfl⟩) hS (fun v_6 H locs w_7 hR hS => ?_)
    rcases w_7 with ⟨rfl, f_8, f_9, f_10, f_11, f_12⟩ | ⟨rfl, f_13⟩
    · skip
      refine bz_eq (tgt := 23) (a := 1) (b := 0) hC.x hC.b rfl rfl dX9_lift_17 (by decide) (fun c_14 => absurd c_14 (by decide)) (fun _ => ?_)
      refine lv_bipush (v := (-2)) hC.x hC.b dX9_lift_20 (by decide) ?_
      exact reti hC hK hR hS (by first | exact Or.inl (⟨by rfl, by first | rfl | assumption, by rfl, by first | omega | assumption, by first | omega | assumption, by first | omega | assumption⟩) | exact Or.inr (Or.inl (⟨by rfl, by first | rfl | assumption, by rfl, by first | omega | assumption, by first | omega | assumption⟩)) | exact False.elim (by omega)) dX9_lift_22
    · skip
      refine bz_eq (tgt := 23) (a := 0) (b := 0) hC.x hC.b rfl rfl dX9_lift_17 (by decide) (fun _ => ?_) (fun c_15 => absurd c_15 (by decide))
      refine lv_aload_n hC.x hC.b dX9_lift_23 rfl (lv_at hl 1 rfl) ?_
      refine rget hC hK hR (ct_bench G _ _) rfl uin_X9 0 (by decide) TF_X9_10 rfl dX9_lift_24 ?_
      refine lv_iload_n hC.x hC.b dX9_lift_27 rfl (lv_at hl 2 rfl) ?_
      refine gov (runV (As := [.int pl]) (rest := []) hC hK hR hl.1 (c_X5_empty l hG σ τ pl q (by first | rfl | (rw [show pl.toInt = pl.toInt from rfl]; done) | (rw [show pl.toInt = pl.toInt from rfl]; exact hp_q)) ) (call_b hC.ts TC_X5_empty TN_X5 TM_X9_108 hd_X5_empty ⟨Nat.le_of_ble_eq_true rfl, Nat.le_of_ble_eq_true rfl⟩) TI_X5_empty TS_X5_empty (ct_shelf G _ _) rfl rfl rfl (Nat.le_of_ble_eq_true rfl) dX9_lift_28 ⟨Nat.le_of_ble_eq_true rfl, Nat.le_of_ble_eq_true rfl⟩) hS (fun s_18 t_19 H locs w_17 hR hS => ?_)
      try dsimp only [po_X5_empty] at w_17
      rcases w_17 with ⟨es_20, et_21, f_22, f_23⟩ | ⟨es_24, et_25, f_26⟩
      · skip
        rw [et_21] at hR
        refine lv_iload_n hC.x hC.b dX9_lift_31 rfl (lv_at hl 0 rfl) ?_
        exact reti hC hK hR hS (by first | exact Or.inl (⟨by subst es_20; (rfl), by subst es_20; (first | rfl | assumption), by subst es_20; (rfl), by subst es_20; (first | omega | assumption), by subst es_20; (first | omega | assumption), by subst es_20; (first | omega | assumption)⟩) | exact Or.inr (Or.inl (⟨by subst es_20; (rfl), by subst es_20; (first | rfl | assumption), by subst es_20; (rfl), by subst es_20; (first | omega | assumption), by subst es_20; (first | omega | assumption)⟩)) | exact Or.inr (Or.inr ((⟨by subst es_20; (rfl), by subst es_20; (first | rfl | assumption), by subst es_20; (rfl), by subst es_20; (first | omega | assumption)⟩))) | exact False.elim (by omega)) dX9_lift_32
      · skip
        rw [et_25] at hR
        refine lv_iload_n hC.x hC.b dX9_lift_31 rfl (lv_at hl 0 rfl) ?_
        exact reti hC hK hR hS (by first | exact Or.inl (⟨by subst es_24; (rfl), by subst es_24; (first | rfl | assumption), by subst es_24; (rfl), by subst es_24; (first | omega | assumption), by subst es_24; (first | omega | assumption), by subst es_24; (first | omega | assumption)⟩) | exact Or.inr (Or.inl (⟨by subst es_24; (rfl), by subst es_24; (first | rfl | assumption), by subst es_24; (rfl), by subst es_24; (first | omega | assumption), by subst es_24; (first | omega | assumption)⟩)) | exact Or.inr (Or.inr ((⟨by subst es_24; (rfl), by subst es_24; (first | rfl | assumption), by subst es_24; (rfl), by subst es_24; (first | omega | assumption)⟩))) | exact False.elim (by omega)) dX9_lift_32
  · skip
    refine lv_istore_n (lv' := [(2, .int (-1 : Int32)), (0, .ref (G.2.1 0)), (1, .int pl)]) hC.x hC.b dX9_lift_8 rfl hl (by decide) rfl (fun ls hl => ?_)
    refine lv_aload_n hC.x hC.b dX9_lift_9 rfl (lv_at hl 1 rfl) ?_
    refine rget hC hK hR (ct_bench G _ _) rfl uin_X9 0 (by decide) TF_X9_10 rfl dX9_lift_10 ?_
    refine lv_iload_n hC.x hC.b dX9_lift_13 rfl (lv_at hl 2 rfl) ?_
    refine goip (runV (As := [.int pl]) (rest := []) hC hK hR hl.1 (c_X5_hasLinkOf l hG σ τ pl q (by first | rfl | (rw [show pl.toInt = pl.toInt from rfl]; done) | (rw [show pl.toInt = pl.toInt from rfl]; exact hp_q)) ) (call_b hC.ts TC_X5_hasLinkOf TN_X5 TM_X9_105 hd_X5_hasLinkOf ⟨Nat.le_of_ble_eq_true rfl, Nat.le_of_ble_eq_true rfl⟩) TI_X5_hasLinkOf TS_X5_hasLinkOf (ct_shelf G _ _) rfl rfl rfl (Nat.le_of_ble_eq_true rfl) dX9_lift_14 ⟨Nat.le_of_ble_eq_true rfl, Nat.le_of_ble_eq_true rfl⟩) hS (fun v_27 H locs w_28 hR hS => ?_)
    rcases w_28 with ⟨rfl, f_29, f_30, f_31, f_32, f_33⟩ | ⟨rfl, f_34⟩
    · skip
      refine bz_eq (tgt := 23) (a := 1) (b := 0) hC.x hC.b rfl rfl dX9_lift_17 (by decide) (fun c_35 => absurd c_35 (by decide)) (fun _ => ?_)
      refine lv_bipush (v := (-2)) hC.x hC.b dX9_lift_20 (by decide) ?_
      exact reti hC hK hR hS (by first | exact Or.inl (⟨by rfl, by first | rfl | assumption, by rfl, by first | omega | assumption, by first | omega | assumption, by first | omega | assumption⟩) | exact Or.inr (Or.inl (⟨by rfl, by first | rfl | assumption, by rfl, by first | omega | assumption, by first | omega | assumption⟩)) | exact False.elim (by omega)) dX9_lift_22
    · skip
      refine bz_eq (tgt := 23) (a := 0) (b := 0) hC.x hC.b rfl rfl dX9_lift_17 (by decide) (fun _ => ?_) (fun c_36 => absurd c_36 (by decide))
      refine lv_aload_n hC.x hC.b dX9_lift_23 rfl (lv_at hl 1 rfl) ?_
      refine rget hC hK hR (ct_bench G _ _) rfl uin_X9 0 (by decide) TF_X9_10 rfl dX9_lift_24 ?_
      refine lv_iload_n hC.x hC.b dX9_lift_27 rfl (lv_at hl 2 rfl) ?_
      refine gov (runV (As := [.int pl]) (rest := []) hC hK hR hl.1 (c_X5_empty l hG σ τ pl q (by first | rfl | (rw [show pl.toInt = pl.toInt from rfl]; done) | (rw [show pl.toInt = pl.toInt from rfl]; exact hp_q)) ) (call_b hC.ts TC_X5_empty TN_X5 TM_X9_108 hd_X5_empty ⟨Nat.le_of_ble_eq_true rfl, Nat.le_of_ble_eq_true rfl⟩) TI_X5_empty TS_X5_empty (ct_shelf G _ _) rfl rfl rfl (Nat.le_of_ble_eq_true rfl) dX9_lift_28 ⟨Nat.le_of_ble_eq_true rfl, Nat.le_of_ble_eq_true rfl⟩) hS (fun s_39 t_40 H locs w_38 hR hS => ?_)
      try dsimp only [po_X5_empty] at w_38
      rcases w_38 with ⟨es_41, et_42, f_43, f_44⟩ | ⟨es_45, et_46, f_47⟩
      · skip
        rw [et_42] at hR
        refine lv_iload_n hC.x hC.b dX9_lift_31 rfl (lv_at hl 0 rfl) ?_
        exact reti hC hK hR hS (by first | exact Or.inr (Or.inl (⟨by subst es_41; (rfl), by subst es_41; (first | rfl | assumption), by subst es_41; (rfl), by subst es_41; (first | omega | assumption), by subst es_41; (first | omega | assumption)⟩)) | exact Or.inr (Or.inr ((⟨by subst es_41; (rfl), by subst es_41; (first | rfl | assumption), by subst es_41; (rfl), by subst es_41; (first | omega | assumption)⟩))) | exact False.elim (by omega)) dX9_lift_32
      · skip
        rw [et_46] at hR
        refine lv_iload_n hC.x hC.b dX9_lift_31 rfl (lv_at hl 0 rfl) ?_
        exact reti hC hK hR hS (by first | exact Or.inr (Or.inl (⟨by subst es_45; (rfl), by subst es_45; (first | rfl | assumption), by subst es_45; (rfl), by subst es_45; (first | omega | assumption), by subst es_45; (first | omega | assumption)⟩)) | exact Or.inr (Or.inr ((⟨by subst es_45; (rfl), by subst es_45; (first | rfl | assumption), by subst es_45; (rfl), by subst es_45; (first | omega | assumption)⟩))) | exact False.elim (by omega)) dX9_lift_32

abbrev po_X9_kind (σ : SI) (τ : SL) (pl : Int32) (q : Nat) : Int32 → SI × SL → Prop := fun v u => u = (σ, τ) ∧ (((v = σ 2 q) ∧ (0 ≤ pl.toInt) ∧ (pl.toInt < 24)) ∨ ((v = (-1)) ∧ (¬ (0 ≤ pl.toInt ∧ pl.toInt < 24))))
set_option maxRecDepth 100000 in
set_option maxHeartbeats 4000000 in
theorem c_X9_kind (l : Launch) {G : Gx} {A : Nat → Prop} (hG : GOk G A) (σ : SI) (τ : SL) (pl : Int32) (q : Nat) (hp_q : pl.toInt.toNat = q) : MI l G A 1 yX9_kind cX9_kind 2 (some .int) [.ref (G.2.1 0), .int pl] (σ, τ) (po_X9_kind σ τ pl q) := by
  refine met_of (own := RX9) (by decide +kernel) rfl [(0, .ref (G.2.1 0)), (1, .int pl)] rfl (Nat.le_of_ble_eq_true rfl) ?_
  intro p e s m args below meth c ls hC hK hR hl
  have hS : va_S A s.heap s.heap [] := va_S.rf
  refine lv_aload_n hC.x hC.b dX9_kind_0 rfl (lv_at hl 0 rfl) ?_
  refine rget hC hK hR (ct_bench G _ _) rfl uin_X9 0 (by decide) TF_X9_10 rfl dX9_kind_1 ?_
  refine lv_iload_n hC.x hC.b dX9_kind_4 rfl (lv_at hl 1 rfl) ?_
  refine goip (runV (As := [.int pl]) (rest := []) hC hK hR hl.1 (c_X5_kindAt l hG σ τ pl q (by first | rfl | (rw [show pl.toInt = pl.toInt from rfl]; done) | (rw [show pl.toInt = pl.toInt from rfl]; exact hp_q)) ) (call_b hC.ts TC_X5_kindAt TN_X5 TM_X9_84 hd_X5_kindAt ⟨Nat.le_of_ble_eq_true rfl, Nat.le_of_ble_eq_true rfl⟩) TI_X5_kindAt TS_X5_kindAt (ct_shelf G _ _) rfl rfl rfl (Nat.le_of_ble_eq_true rfl) dX9_kind_5 ⟨Nat.le_of_ble_eq_true rfl, Nat.le_of_ble_eq_true rfl⟩) hS (fun v_1 H locs w_2 hR hS => ?_)
  rcases w_2 with ⟨rfl, f_3, f_4⟩ | ⟨rfl, f_5⟩
  · skip
    exact reti hC hK hR hS ⟨rfl, (by first | exact Or.inl (⟨by first | rfl | omega, by first | omega | assumption, by first | omega | assumption⟩) | exact Or.inr ((⟨by first | rfl | omega, by first | omega | assumption⟩)) | exact False.elim (by omega))⟩ dX9_kind_8
  · skip
    exact reti hC hK hR hS ⟨rfl, (by first | exact Or.inl (⟨by first | rfl | omega, by first | omega | assumption, by first | omega | assumption⟩) | exact Or.inr ((⟨by first | rfl | omega, by first | omega | assumption⟩)) | exact False.elim (by omega))⟩ dX9_kind_8

abbrev po_X9_read (σ : SI) (τ : SL) (pl : Int32) (q : Nat) (xa : Int32) : Int32 → SI × SL → Prop := fun v u => ((v = (-1)) ∧ (u.1 = σ) ∧ (u.2 = τ) ∧ ((¬ (0 ≤ pl.toInt ∧ pl.toInt < 24)) ∨ (σ 2 q).toInt = -1 ∨ (4 ≤ (σ 2 q).toInt ∧ (σ 2 q).toInt ≤ 6 ∧ ¬ (-10000 ≤ xa.toInt ∧ xa.toInt ≤ 10000)))) ∨ ((v = (-2)) ∧ (u.1 = σ) ∧ (u.2 = τ) ∧ (0 ≤ pl.toInt ∧ pl.toInt < 24) ∧ ((σ 2 q).toInt ≠ -1) ∧ (¬ (4 ≤ (σ 2 q).toInt ∧ (σ 2 q).toInt ≤ 6))) ∨ ((v = (1)) ∧ (u.1 = up2 σ (128 + q) (σ 0 8).toInt.toNat xa) ∧ (u.2 = τ) ∧ (0 ≤ pl.toInt ∧ pl.toInt < 24) ∧ (4 ≤ (σ 2 q).toInt ∧ (σ 2 q).toInt ≤ 6) ∧ (-10000 ≤ xa.toInt ∧ xa.toInt ≤ 10000))
set_option maxRecDepth 100000 in
set_option maxHeartbeats 4000000 in
theorem c_X9_read (l : Launch) {G : Gx} {A : Nat → Prop} (hG : GOk G A) (σ : SI) (τ : SL) (pl : Int32) (q : Nat) (hp_q : pl.toInt.toNat = q) (xa : Int32) (hnow : 0 ≤ (σ 0 8).toInt ∧ (σ 0 8).toInt ≤ 200) : MI l G A 2 yX9_read cX9_read 4 (some .int) [.ref (G.2.1 0), .int pl, .int xa] (σ, τ) (po_X9_read σ τ pl q xa) := by
  refine met_of (own := RX9) (by decide +kernel) rfl [(0, .ref (G.2.1 0)), (1, .int pl), (2, .int xa)] rfl (Nat.le_of_ble_eq_true rfl) ?_
  intro p e s m args below meth c ls hC hK hR hl
  have hS : va_S A s.heap s.heap [] := va_S.rf
  refine lv_aload_n hC.x hC.b dX9_read_0 rfl (lv_at hl 0 rfl) ?_
  refine rget hC hK hR (ct_bench G _ _) rfl uin_X9 0 (by decide) TF_X9_10 rfl dX9_read_1 ?_
  refine lv_iload_n hC.x hC.b dX9_read_4 rfl (lv_at hl 1 rfl) ?_
  refine goqp (runV (As := [.int pl]) (rest := []) hC hK hR hl.1 (c_X5_linkAt l hG σ τ pl q (by first | rfl | (rw [show pl.toInt = pl.toInt from rfl]; done) | (rw [show pl.toInt = pl.toInt from rfl]; exact hp_q)) ) (call_b hC.ts TC_X5_linkAt TN_X5 TM_X9_112 hd_X5_linkAt ⟨Nat.le_of_ble_eq_true rfl, Nat.le_of_ble_eq_true rfl⟩) TI_X5_linkAt TS_X5_linkAt (ct_shelf G _ _) rfl rfl rfl (Nat.le_of_ble_eq_true rfl) dX9_read_5 ⟨Nat.le_of_ble_eq_true rfl, Nat.le_of_ble_eq_true rfl⟩) hS (fun v_1 H locs w_2 hR hS => ?_)
  rcases w_2 with ⟨rfl, f_3⟩ | ⟨rfl, f_4, f_5, f_6, f_7⟩
  · skip
    refine lv_astore_nN (lv' := [(3, .null), (0, .ref (G.2.1 0)), (1, .int pl), (2, .int xa)]) hC.x hC.b dX9_read_8 rfl hl (by decide) rfl (fun ls hl => ?_)
    refine lv_aload_nN hC.x hC.b dX9_read_9 rfl (lv_at hl 0 rfl) ?_
    refine lv_ifnonnullN hC.x hC.b dX9_read_10 ?_
    refine lv_aload_n hC.x hC.b dX9_read_13 rfl (lv_at hl 1 rfl) ?_
    refine lv_iload_n hC.x hC.b dX9_read_14 rfl (lv_at hl 2 rfl) ?_
    refine goip (runV (As := [.int pl]) (rest := []) hC hK hR hl.1 (c_X9_refusalAt l hG σ τ pl q (by first | rfl | (rw [show pl.toInt = pl.toInt from rfl]; done) | (rw [show pl.toInt = pl.toInt from rfl]; exact hp_q)) ) (call_b hC.ts TC_X9_refusalAt TN_X9 TM_X9_116 hd_X9_refusalAt ⟨Nat.le_of_ble_eq_true rfl, Nat.le_of_ble_eq_true rfl⟩) TI_X9_refusalAt TS_X9_refusalAt (ct_bench G _ _) rfl rfl rfl (Nat.le_of_ble_eq_true rfl) dX9_read_15 ⟨Nat.le_of_ble_eq_true rfl, Nat.le_of_ble_eq_true rfl⟩) hS (fun v_8 H locs w_9 hR hS => ?_)
    rcases w_9 with ⟨rfl, f_10⟩ | ⟨rfl, f_11, f_12, f_13⟩
    · skip
      exact reti hC hK hR hS (by first | exact Or.inl (⟨by first | rfl | omega, by first | rfl | assumption, by rfl, by first | omega | assumption⟩) | exact False.elim (by omega)) dX9_read_18
    · skip
      exact reti hC hK hR hS (by first | exact Or.inr (Or.inl (⟨by first | rfl | omega, by first | rfl | assumption, by rfl, by first | omega | assumption, by first | omega | assumption, by first | omega | assumption⟩)) | exact False.elim (by omega)) dX9_read_18
  · skip
    have hq_14 : q < 24 := by omega
    refine lv_astore_n (lv' := [(3, .ref (G.2.1 (104 + q))), (0, .ref (G.2.1 0)), (1, .int pl), (2, .int xa)]) hC.x hC.b dX9_read_8 rfl hl (by decide) rfl (fun ls hl => ?_)
    refine lv_aload_n hC.x hC.b dX9_read_9 rfl (lv_at hl 0 rfl) ?_
    refine lv_ifnonnull (tgt := 19) hC.x hC.b dX9_read_10 (by decide) ?_
    refine lv_iload_n hC.x hC.b dX9_read_19 rfl (lv_at hl 3 rfl) ?_
    refine lv_sipush (v := 10000) hC.x hC.b dX9_read_20 (by decide) ?_
    have av_15 : (10000 : Int32).toInt = 10000 := by decide
    refine goip (runS (As := [.int xa, .int (10000 : Int32)]) (rest := []) hC hK hR hl.1 (c_X9_isWithin l hG σ τ xa (10000 : Int32) (by first | decide | omega)) (call_b hC.ts TC_X9_isWithin TN_X9 TM_X9_119 hd_X9_isWithin ⟨Nat.le_of_ble_eq_true rfl, Nat.le_of_ble_eq_true rfl⟩) TT_X9_isWithin rfl rfl (Nat.le_of_ble_eq_true rfl) dX9_read_23 ⟨Nat.le_of_ble_eq_true rfl, Nat.le_of_ble_eq_true rfl⟩) hS (fun v_16 H locs w_17 hR hS => ?_)
    rcases w_17 with ⟨rfl, f_18, f_19⟩ | ⟨rfl, f_20⟩
    · skip
      refine bz_ne (tgt := 31) (a := 1) (b := 0) hC.x hC.b rfl rfl dX9_read_26 (by decide) (fun _ => ?_) (fun c_21 => absurd c_21 (by decide))
      refine lv_aload_n hC.x hC.b dX9_read_31 rfl (lv_at hl 0 rfl) ?_
      refine lv_aload_n hC.x hC.b dX9_read_32 rfl (lv_at hl 1 rfl) ?_
      refine rget hC hK hR (ct_bench G _ _) rfl uin_X9 8 (by decide) TF_X9_65 rfl dX9_read_33 ?_
      refine lv_iload_n hC.x hC.b dX9_read_36 rfl (lv_at hl 3 rfl) ?_
      refine gov (runV (As := [.int (σ 0 8), .int xa]) (rest := []) hC hK hR hl.1 (c_X4_readThere l hG σ τ q hq_14 (σ 0 8) xa ) (call_b hC.ts TC_X4_readThere TN_X4 TM_X9_123 hd_X4_readThere ⟨Nat.le_of_ble_eq_true rfl, Nat.le_of_ble_eq_true rfl⟩) TI_X4_readThere TS_X4_readThere (ct_link hq_14 G _ _) rfl rfl rfl (Nat.le_of_ble_eq_true rfl) dX9_read_37 ⟨Nat.le_of_ble_eq_true rfl, Nat.le_of_ble_eq_true rfl⟩) hS (fun s_24 t_25 H locs w_23 hR hS => ?_)
      try dsimp only [po_X4_readThere] at w_23
      rcases w_23 with ⟨es_26, et_27, f_28, f_29⟩ | ⟨es_30, et_31, f_32⟩
      · skip
        rw [et_27] at hR
        refine lv_iconst (v := 1) hC.x hC.b dX9_read_40 (by decide) ?_
        exact reti hC hK hR hS (by first | exact Or.inr (Or.inr ((⟨by subst es_26; (first | rfl | omega), by subst es_26; (first | rfl | assumption), by subst es_26; (rfl), by subst es_26; (first | omega | assumption), by subst es_26; (first | omega | assumption), by subst es_26; (first | omega | assumption)⟩))) | exact False.elim (by omega)) dX9_read_41
      · skip
        rw [et_31] at hR
        refine lv_iconst (v := 1) hC.x hC.b dX9_read_40 (by decide) ?_
        exact reti hC hK hR hS (by first | exact Or.inr (Or.inr ((⟨by subst es_30; (first | rfl | omega), by subst es_30; (first | rfl | assumption), by subst es_30; (rfl), by subst es_30; (first | omega | assumption), by subst es_30; (first | omega | assumption), by subst es_30; (first | omega | assumption)⟩))) | exact False.elim (by omega)) dX9_read_41
    · skip
      refine bz_ne (tgt := 31) (a := 0) (b := 0) hC.x hC.b rfl rfl dX9_read_26 (by decide) (fun c_33 => absurd c_33 (by decide)) (fun _ => ?_)
      refine lv_iconst (v := (-1)) hC.x hC.b dX9_read_29 (by decide) ?_
      exact reti hC hK hR hS (by first | exact Or.inl (⟨by first | rfl | omega, by first | rfl | assumption, by rfl, by first | omega | assumption⟩) | exact False.elim (by omega)) dX9_read_30

abbrev po_X9_back (σ : SI) (τ : SL) (pl : Int32) (q : Nat) (xa : Int32) : Int32 → SI × SL → Prop := fun v u => ((v = (-1)) ∧ (u.1 = σ) ∧ (u.2 = τ) ∧ ((¬ (0 ≤ pl.toInt ∧ pl.toInt < 24)) ∨ (σ 2 q).toInt = -1 ∨ (4 ≤ (σ 2 q).toInt ∧ (σ 2 q).toInt ≤ 6 ∧ (σ (104 + q) 0).toInt = 6 ∧ ¬ (-10000 ≤ xa.toInt ∧ xa.toInt ≤ 10000)))) ∨ ((v = (-2)) ∧ (u.1 = σ) ∧ (u.2 = τ) ∧ (0 ≤ pl.toInt ∧ pl.toInt < 24) ∧ ((σ 2 q).toInt ≠ -1) ∧ (¬ (4 ≤ (σ 2 q).toInt ∧ (σ 2 q).toInt ≤ 6 ∧ (σ (104 + q) 0).toInt = 6))) ∨ ((v = (1)) ∧ (u.1 = up2 σ (152 + q) (σ 0 8).toInt.toNat xa) ∧ (u.2 = τ) ∧ (0 ≤ pl.toInt ∧ pl.toInt < 24) ∧ (4 ≤ (σ 2 q).toInt ∧ (σ 2 q).toInt ≤ 6) ∧ ((σ (104 + q) 0).toInt = 6) ∧ (-10000 ≤ xa.toInt ∧ xa.toInt ≤ 10000))
set_option maxRecDepth 100000 in
set_option maxHeartbeats 4000000 in
theorem c_X9_back (l : Launch) {G : Gx} {A : Nat → Prop} (hG : GOk G A) (σ : SI) (τ : SL) (pl : Int32) (q : Nat) (hp_q : pl.toInt.toNat = q) (xa : Int32) (hnow : 0 ≤ (σ 0 8).toInt ∧ (σ 0 8).toInt ≤ 200) : MI l G A 2 yX9_back cX9_back 4 (some .int) [.ref (G.2.1 0), .int pl, .int xa] (σ, τ) (po_X9_back σ τ pl q xa) := by
  refine met_of (own := RX9) (by decide +kernel) rfl [(0, .ref (G.2.1 0)), (1, .int pl), (2, .int xa)] rfl (Nat.le_of_ble_eq_true rfl) ?_
  intro p e s m args below meth c ls hC hK hR hl
  have hS : va_S A s.heap s.heap [] := va_S.rf
  refine lv_aload_n hC.x hC.b dX9_back_0 rfl (lv_at hl 0 rfl) ?_
  refine rget hC hK hR (ct_bench G _ _) rfl uin_X9 0 (by decide) TF_X9_10 rfl dX9_back_1 ?_
  refine lv_iload_n hC.x hC.b dX9_back_4 rfl (lv_at hl 1 rfl) ?_
  refine goqp (runV (As := [.int pl]) (rest := []) hC hK hR hl.1 (c_X5_linkAt l hG σ τ pl q (by first | rfl | (rw [show pl.toInt = pl.toInt from rfl]; done) | (rw [show pl.toInt = pl.toInt from rfl]; exact hp_q)) ) (call_b hC.ts TC_X5_linkAt TN_X5 TM_X9_112 hd_X5_linkAt ⟨Nat.le_of_ble_eq_true rfl, Nat.le_of_ble_eq_true rfl⟩) TI_X5_linkAt TS_X5_linkAt (ct_shelf G _ _) rfl rfl rfl (Nat.le_of_ble_eq_true rfl) dX9_back_5 ⟨Nat.le_of_ble_eq_true rfl, Nat.le_of_ble_eq_true rfl⟩) hS (fun v_1 H locs w_2 hR hS => ?_)
  rcases w_2 with ⟨rfl, f_3⟩ | ⟨rfl, f_4, f_5, f_6, f_7⟩
  · skip
    refine lv_astore_nN (lv' := [(3, .null), (0, .ref (G.2.1 0)), (1, .int pl), (2, .int xa)]) hC.x hC.b dX9_back_8 rfl hl (by decide) rfl (fun ls hl => ?_)
    refine lv_aload_nN hC.x hC.b dX9_back_9 rfl (lv_at hl 0 rfl) ?_
    refine lv_ifnullN (tgt := 22) hC.x hC.b dX9_back_10 (by decide) ?_
    refine lv_aload_n hC.x hC.b dX9_back_22 rfl (lv_at hl 1 rfl) ?_
    refine lv_iload_n hC.x hC.b dX9_back_23 rfl (lv_at hl 2 rfl) ?_
    refine goip (runV (As := [.int pl]) (rest := []) hC hK hR hl.1 (c_X9_refusalAt l hG σ τ pl q (by first | rfl | (rw [show pl.toInt = pl.toInt from rfl]; done) | (rw [show pl.toInt = pl.toInt from rfl]; exact hp_q)) ) (call_b hC.ts TC_X9_refusalAt TN_X9 TM_X9_116 hd_X9_refusalAt ⟨Nat.le_of_ble_eq_true rfl, Nat.le_of_ble_eq_true rfl⟩) TI_X9_refusalAt TS_X9_refusalAt (ct_bench G _ _) rfl rfl rfl (Nat.le_of_ble_eq_true rfl) dX9_back_24 ⟨Nat.le_of_ble_eq_true rfl, Nat.le_of_ble_eq_true rfl⟩) hS (fun v_8 H locs w_9 hR hS => ?_)
    rcases w_9 with ⟨rfl, f_10⟩ | ⟨rfl, f_11, f_12, f_13⟩
    · skip
      exact reti hC hK hR hS (by first | exact Or.inl (⟨by first | rfl | omega, by first | rfl | assumption, by rfl, by first | omega | assumption⟩) | exact False.elim (by omega)) dX9_back_27
    · skip
      exact reti hC hK hR hS (by first | exact Or.inr (Or.inl (⟨by first | rfl | omega, by first | rfl | assumption, by rfl, by first | omega | assumption, by first | omega | assumption, by first | omega | assumption⟩)) | exact False.elim (by omega)) dX9_back_27
  · skip
    have hq_14 : q < 24 := by omega
    refine lv_astore_n (lv' := [(3, .ref (G.2.1 (104 + q))), (0, .ref (G.2.1 0)), (1, .int pl), (2, .int xa)]) hC.x hC.b dX9_back_8 rfl hl (by decide) rfl (fun ls hl => ?_)
    refine lv_aload_n hC.x hC.b dX9_back_9 rfl (lv_at hl 0 rfl) ?_
    refine lv_ifnull hC.x hC.b dX9_back_10 ?_
    refine lv_aload_n hC.x hC.b dX9_back_13 rfl (lv_at hl 0 rfl) ?_
    refine rget hC hK hR (ct_link hq_14 G _ _) rfl uin_X4 0 (by decide) TF_X9_129 rfl dX9_back_14 ?_
    refine lv_bipush (v := 6) hC.x hC.b dX9_back_17 (by decide) ?_
    refine bi_eq (tgt := 28) (a := (σ (104 + q) 0).toInt) (b := 6) hC.x hC.b rfl rfl dX9_back_19 (by decide) (fun c_15 => ?_) (fun c_15 => ?_)
    · skip
      refine lv_iload_n hC.x hC.b dX9_back_28 rfl (lv_at hl 3 rfl) ?_
      refine lv_sipush (v := 10000) hC.x hC.b dX9_back_29 (by decide) ?_
      have av_16 : (10000 : Int32).toInt = 10000 := by decide
      refine goip (runS (As := [.int xa, .int (10000 : Int32)]) (rest := []) hC hK hR hl.1 (c_X9_isWithin l hG σ τ xa (10000 : Int32) (by first | decide | omega)) (call_b hC.ts TC_X9_isWithin TN_X9 TM_X9_119 hd_X9_isWithin ⟨Nat.le_of_ble_eq_true rfl, Nat.le_of_ble_eq_true rfl⟩) TT_X9_isWithin rfl rfl (Nat.le_of_ble_eq_true rfl) dX9_back_32 ⟨Nat.le_of_ble_eq_true rfl, Nat.le_of_ble_eq_true rfl⟩) hS (fun v_17 H locs w_18 hR hS => ?_)
      rcases w_18 with ⟨rfl, f_19, f_20⟩ | ⟨rfl, f_21⟩
      · skip
        refine bz_ne (tgt := 40) (a := 1) (b := 0) hC.x hC.b rfl rfl dX9_back_35 (by decide) (fun _ => ?_) (fun c_22 => absurd c_22 (by decide))
        refine lv_aload_n hC.x hC.b dX9_back_40 rfl (lv_at hl 0 rfl) ?_
        refine lv_aload_n hC.x hC.b dX9_back_41 rfl (lv_at hl 1 rfl) ?_
        refine rget hC hK hR (ct_bench G _ _) rfl uin_X9 8 (by decide) TF_X9_65 rfl dX9_back_42 ?_
        refine lv_iload_n hC.x hC.b dX9_back_45 rfl (lv_at hl 3 rfl) ?_
        refine gov (runV (As := [.int (σ 0 8), .int xa]) (rest := []) hC hK hR hl.1 (c_X4_readBack l hG σ τ q hq_14 (σ 0 8) xa ) (call_b hC.ts TC_X4_readBack TN_X4 TM_X9_132 hd_X4_readBack ⟨Nat.le_of_ble_eq_true rfl, Nat.le_of_ble_eq_true rfl⟩) TI_X4_readBack TS_X4_readBack (ct_link hq_14 G _ _) rfl rfl rfl (Nat.le_of_ble_eq_true rfl) dX9_back_46 ⟨Nat.le_of_ble_eq_true rfl, Nat.le_of_ble_eq_true rfl⟩) hS (fun s_25 t_26 H locs w_24 hR hS => ?_)
        try dsimp only [po_X4_readBack] at w_24
        rcases w_24 with ⟨es_27, et_28, f_29, f_30⟩ | ⟨es_31, et_32, f_33⟩
        · skip
          rw [et_28] at hR
          refine lv_iconst (v := 1) hC.x hC.b dX9_back_49 (by decide) ?_
          exact reti hC hK hR hS (by first | exact Or.inr (Or.inr ((⟨by subst es_27; (first | rfl | omega), by subst es_27; (first | rfl | assumption), by subst es_27; (rfl), by subst es_27; (first | omega | assumption), by subst es_27; (first | omega | assumption), by subst es_27; (first | omega | assumption), by subst es_27; (first | omega | assumption)⟩))) | exact False.elim (by omega)) dX9_back_50
        · skip
          rw [et_32] at hR
          refine lv_iconst (v := 1) hC.x hC.b dX9_back_49 (by decide) ?_
          exact reti hC hK hR hS (by first | exact Or.inr (Or.inr ((⟨by subst es_31; (first | rfl | omega), by subst es_31; (first | rfl | assumption), by subst es_31; (rfl), by subst es_31; (first | omega | assumption), by subst es_31; (first | omega | assumption), by subst es_31; (first | omega | assumption), by subst es_31; (first | omega | assumption)⟩))) | exact False.elim (by omega)) dX9_back_50
      · skip
        refine bz_ne (tgt := 40) (a := 0) (b := 0) hC.x hC.b rfl rfl dX9_back_35 (by decide) (fun c_34 => absurd c_34 (by decide)) (fun _ => ?_)
        refine lv_iconst (v := (-1)) hC.x hC.b dX9_back_38 (by decide) ?_
        exact reti hC hK hR hS (by first | exact Or.inl (⟨by first | rfl | omega, by first | rfl | assumption, by rfl, by first | omega | assumption⟩) | exact False.elim (by omega)) dX9_back_39
    · skip
      refine lv_aload_n hC.x hC.b dX9_back_22 rfl (lv_at hl 1 rfl) ?_
      refine lv_iload_n hC.x hC.b dX9_back_23 rfl (lv_at hl 2 rfl) ?_
      refine goip (runV (As := [.int pl]) (rest := []) hC hK hR hl.1 (c_X9_refusalAt l hG σ τ pl q (by first | rfl | (rw [show pl.toInt = pl.toInt from rfl]; done) | (rw [show pl.toInt = pl.toInt from rfl]; exact hp_q)) ) (call_b hC.ts TC_X9_refusalAt TN_X9 TM_X9_116 hd_X9_refusalAt ⟨Nat.le_of_ble_eq_true rfl, Nat.le_of_ble_eq_true rfl⟩) TI_X9_refusalAt TS_X9_refusalAt (ct_bench G _ _) rfl rfl rfl (Nat.le_of_ble_eq_true rfl) dX9_back_24 ⟨Nat.le_of_ble_eq_true rfl, Nat.le_of_ble_eq_true rfl⟩) hS (fun v_35 H locs w_36 hR hS => ?_)
      rcases w_36 with ⟨rfl, f_37⟩ | ⟨rfl, f_38, f_39, f_40⟩
      · skip
        exact reti hC hK hR hS (by first | exact Or.inl (⟨by first | rfl | omega, by first | rfl | assumption, by rfl, by first | omega | assumption⟩) | exact False.elim (by omega)) dX9_back_27
      · skip
        exact reti hC hK hR hS (by first | exact Or.inr (Or.inl (⟨by first | rfl | omega, by first | rfl | assumption, by rfl, by first | omega | assumption, by first | omega | assumption, by first | omega | assumption⟩)) | exact False.elim (by omega)) dX9_back_27

abbrev po_X9_tear (σ : SI) (τ : SL) (pl : Int32) (q : Nat) : Int32 → SI × SL → Prop := fun v u => ((v = (-1)) ∧ (u.1 = σ) ∧ (u.2 = τ) ∧ ((¬ (0 ≤ pl.toInt ∧ pl.toInt < 24)) ∨ (σ 2 q).toInt = -1)) ∨ ((v = (-2)) ∧ (u.1 = σ) ∧ (u.2 = τ) ∧ (0 ≤ pl.toInt ∧ pl.toInt < 24) ∧ ((σ 2 q).toInt ≠ -1) ∧ (¬ (4 ≤ (σ 2 q).toInt ∧ (σ 2 q).toInt ≤ 6))) ∨ ((v = cntR σ q 201) ∧ (u.2 = τ) ∧ (0 ≤ pl.toInt ∧ pl.toInt < 24) ∧ (4 ≤ (σ 2 q).toInt ∧ (σ 2 q).toInt ≤ 6) ∧ (Torn σ u.1 q))
set_option maxRecDepth 100000 in
set_option maxHeartbeats 4000000 in
theorem c_X9_tear (l : Launch) {G : Gx} {A : Nat → Prop} (hG : GOk G A) (σ : SI) (τ : SL) (pl : Int32) (q : Nat) (hp_q : pl.toInt.toNat = q) : MI l G A 2 yX9_tear cX9_tear 3 (some .int) [.ref (G.2.1 0), .int pl] (σ, τ) (po_X9_tear σ τ pl q) := by
  refine met_of (own := RX9) (by decide +kernel) rfl [(0, .ref (G.2.1 0)), (1, .int pl)] rfl (Nat.le_of_ble_eq_true rfl) ?_
  intro p e s m args below meth c ls hC hK hR hl
  have hS : va_S A s.heap s.heap [] := va_S.rf
  refine lv_aload_n hC.x hC.b dX9_tear_0 rfl (lv_at hl 0 rfl) ?_
  refine rget hC hK hR (ct_bench G _ _) rfl uin_X9 0 (by decide) TF_X9_10 rfl dX9_tear_1 ?_
  refine lv_iload_n hC.x hC.b dX9_tear_4 rfl (lv_at hl 1 rfl) ?_
  refine goqp (runV (As := [.int pl]) (rest := []) hC hK hR hl.1 (c_X5_linkAt l hG σ τ pl q (by first | rfl | (rw [show pl.toInt = pl.toInt from rfl]; done) | (rw [show pl.toInt = pl.toInt from rfl]; exact hp_q)) ) (call_b hC.ts TC_X5_linkAt TN_X5 TM_X9_112 hd_X5_linkAt ⟨Nat.le_of_ble_eq_true rfl, Nat.le_of_ble_eq_true rfl⟩) TI_X5_linkAt TS_X5_linkAt (ct_shelf G _ _) rfl rfl rfl (Nat.le_of_ble_eq_true rfl) dX9_tear_5 ⟨Nat.le_of_ble_eq_true rfl, Nat.le_of_ble_eq_true rfl⟩) hS (fun v_1 H locs w_2 hR hS => ?_)
  rcases w_2 with ⟨rfl, f_3⟩ | ⟨rfl, f_4, f_5, f_6, f_7⟩
  · skip
    refine lv_astore_nN (lv' := [(2, .null), (0, .ref (G.2.1 0)), (1, .int pl)]) hC.x hC.b dX9_tear_8 rfl hl (by decide) rfl (fun ls hl => ?_)
    refine lv_aload_nN hC.x hC.b dX9_tear_9 rfl (lv_at hl 0 rfl) ?_
    refine lv_ifnonnullN hC.x hC.b dX9_tear_10 ?_
    refine lv_aload_n hC.x hC.b dX9_tear_13 rfl (lv_at hl 1 rfl) ?_
    refine lv_iload_n hC.x hC.b dX9_tear_14 rfl (lv_at hl 2 rfl) ?_
    refine goip (runV (As := [.int pl]) (rest := []) hC hK hR hl.1 (c_X9_refusalAt l hG σ τ pl q (by first | rfl | (rw [show pl.toInt = pl.toInt from rfl]; done) | (rw [show pl.toInt = pl.toInt from rfl]; exact hp_q)) ) (call_b hC.ts TC_X9_refusalAt TN_X9 TM_X9_116 hd_X9_refusalAt ⟨Nat.le_of_ble_eq_true rfl, Nat.le_of_ble_eq_true rfl⟩) TI_X9_refusalAt TS_X9_refusalAt (ct_bench G _ _) rfl rfl rfl (Nat.le_of_ble_eq_true rfl) dX9_tear_15 ⟨Nat.le_of_ble_eq_true rfl, Nat.le_of_ble_eq_true rfl⟩) hS (fun v_8 H locs w_9 hR hS => ?_)
    rcases w_9 with ⟨rfl, f_10⟩ | ⟨rfl, f_11, f_12, f_13⟩
    · skip
      refine lv_goto (tgt := 25) hC.x hC.b dX9_tear_18 (by decide) ?_
      exact reti hC hK hR hS (by first | exact Or.inl (⟨by first | rfl | assumption, by first | rfl | assumption, by rfl, by first | omega | assumption⟩) | exact Or.inr (Or.inr ((⟨by first | rfl | assumption, by rfl, by first | omega | assumption, by first | omega | assumption, by first | omega | assumption⟩))) | exact False.elim (by omega)) dX9_tear_25
    · skip
      refine lv_goto (tgt := 25) hC.x hC.b dX9_tear_18 (by decide) ?_
      exact reti hC hK hR hS (by first | exact Or.inr (Or.inl (⟨by first | rfl | assumption, by first | rfl | assumption, by rfl, by first | omega | assumption, by first | omega | assumption, by first | omega | assumption⟩)) | exact Or.inr (Or.inr ((⟨by first | rfl | assumption, by rfl, by first | omega | assumption, by first | omega | assumption, by first | omega | assumption⟩))) | exact False.elim (by omega)) dX9_tear_25
  · skip
    have hq_14 : q < 24 := by omega
    refine lv_astore_n (lv' := [(2, .ref (G.2.1 (104 + q))), (0, .ref (G.2.1 0)), (1, .int pl)]) hC.x hC.b dX9_tear_8 rfl hl (by decide) rfl (fun ls hl => ?_)
    refine lv_aload_n hC.x hC.b dX9_tear_9 rfl (lv_at hl 0 rfl) ?_
    refine lv_ifnonnull (tgt := 21) hC.x hC.b dX9_tear_10 (by decide) ?_
    refine lv_aload_n hC.x hC.b dX9_tear_21 rfl (lv_at hl 0 rfl) ?_
    refine goi (runV (As := []) (rest := []) hC hK hR hl.1 (c_X4_dropReadings l hG σ τ q hq_14 ) (call_b hC.ts TC_X4_dropReadings TN_X4 TM_X9_135 hd_X4_dropReadings ⟨Nat.le_of_ble_eq_true rfl, Nat.le_of_ble_eq_true rfl⟩) TI_X4_dropReadings TS_X4_dropReadings (ct_link hq_14 G _ _) rfl rfl rfl (Nat.le_of_ble_eq_true rfl) dX9_tear_22 ⟨Nat.le_of_ble_eq_true rfl, Nat.le_of_ble_eq_true rfl⟩) hS (fun v_15 s_17 t_18 H locs w_16 hR hS => ?_)
    try dsimp only [po_X4_dropReadings] at w_16
    obtain ⟨rfl, et_19, f_20⟩ := w_16
    rw [et_19] at hR
    exact reti hC hK hR hS (by first | exact Or.inl (⟨by first | rfl | assumption, by first | rfl | assumption, by rfl, by first | omega | assumption⟩) | exact Or.inr (Or.inl (⟨by first | rfl | assumption, by first | rfl | assumption, by rfl, by first | omega | assumption, by first | omega | assumption, by first | omega | assumption⟩)) | exact Or.inr (Or.inr ((⟨by first | rfl | assumption, by rfl, by first | omega | assumption, by first | omega | assumption, by first | omega | assumption⟩))) | exact False.elim (by omega)) dX9_tear_25

abbrev po_X9_way (σ : SI) (τ : SL) (pl : Int32) (q : Nat) (xa : Int32) : Int32 → SI × SL → Prop := fun v u => ((v = (-1)) ∧ (u.1 = σ) ∧ (u.2 = τ) ∧ ((¬ (0 ≤ pl.toInt ∧ pl.toInt < 24)) ∨ (σ 2 q).toInt = -1 ∨ (4 ≤ (σ 2 q).toInt ∧ (σ 2 q).toInt ≤ 6 ∧ (σ (104 + q) 0).toInt = 5 ∧ ¬ (-10000 ≤ xa.toInt ∧ xa.toInt ≤ 10000)))) ∨ ((v = (-2)) ∧ (u.1 = σ) ∧ (u.2 = τ) ∧ (0 ≤ pl.toInt ∧ pl.toInt < 24) ∧ ((σ 2 q).toInt ≠ -1) ∧ (¬ (4 ≤ (σ 2 q).toInt ∧ (σ 2 q).toInt ≤ 6 ∧ (σ (104 + q) 0).toInt = 5))) ∨ ((v = (1)) ∧ (u.1 = up2 σ (104 + q) 3 xa) ∧ (u.2 = τ) ∧ (0 ≤ pl.toInt ∧ pl.toInt < 24) ∧ (4 ≤ (σ 2 q).toInt ∧ (σ 2 q).toInt ≤ 6) ∧ ((σ (104 + q) 0).toInt = 5) ∧ (-10000 ≤ xa.toInt ∧ xa.toInt ≤ 10000))
set_option maxRecDepth 100000 in
set_option maxHeartbeats 4000000 in
theorem c_X9_way (l : Launch) {G : Gx} {A : Nat → Prop} (hG : GOk G A) (σ : SI) (τ : SL) (pl : Int32) (q : Nat) (hp_q : pl.toInt.toNat = q) (xa : Int32) : MI l G A 2 yX9_way cX9_way 4 (some .int) [.ref (G.2.1 0), .int pl, .int xa] (σ, τ) (po_X9_way σ τ pl q xa) := by
  refine met_of (own := RX9) (by decide +kernel) rfl [(0, .ref (G.2.1 0)), (1, .int pl), (2, .int xa)] rfl (Nat.le_of_ble_eq_true rfl) ?_
  intro p e s m args below meth c ls hC hK hR hl
  have hS : va_S A s.heap s.heap [] := va_S.rf
  refine lv_aload_n hC.x hC.b dX9_way_0 rfl (lv_at hl 0 rfl) ?_
  refine rget hC hK hR (ct_bench G _ _) rfl uin_X9 0 (by decide) TF_X9_10 rfl dX9_way_1 ?_
  refine lv_iload_n hC.x hC.b dX9_way_4 rfl (lv_at hl 1 rfl) ?_
  refine goqp (runV (As := [.int pl]) (rest := []) hC hK hR hl.1 (c_X5_linkAt l hG σ τ pl q (by first | rfl | (rw [show pl.toInt = pl.toInt from rfl]; done) | (rw [show pl.toInt = pl.toInt from rfl]; exact hp_q)) ) (call_b hC.ts TC_X5_linkAt TN_X5 TM_X9_112 hd_X5_linkAt ⟨Nat.le_of_ble_eq_true rfl, Nat.le_of_ble_eq_true rfl⟩) TI_X5_linkAt TS_X5_linkAt (ct_shelf G _ _) rfl rfl rfl (Nat.le_of_ble_eq_true rfl) dX9_way_5 ⟨Nat.le_of_ble_eq_true rfl, Nat.le_of_ble_eq_true rfl⟩) hS (fun v_1 H locs w_2 hR hS => ?_)
  rcases w_2 with ⟨rfl, f_3⟩ | ⟨rfl, f_4, f_5, f_6, f_7⟩
  · skip
    refine lv_astore_nN (lv' := [(3, .null), (0, .ref (G.2.1 0)), (1, .int pl), (2, .int xa)]) hC.x hC.b dX9_way_8 rfl hl (by decide) rfl (fun ls hl => ?_)
    refine lv_aload_nN hC.x hC.b dX9_way_9 rfl (lv_at hl 0 rfl) ?_
    refine lv_ifnullN (tgt := 21) hC.x hC.b dX9_way_10 (by decide) ?_
    refine lv_aload_n hC.x hC.b dX9_way_21 rfl (lv_at hl 1 rfl) ?_
    refine lv_iload_n hC.x hC.b dX9_way_22 rfl (lv_at hl 2 rfl) ?_
    refine goip (runV (As := [.int pl]) (rest := []) hC hK hR hl.1 (c_X9_refusalAt l hG σ τ pl q (by first | rfl | (rw [show pl.toInt = pl.toInt from rfl]; done) | (rw [show pl.toInt = pl.toInt from rfl]; exact hp_q)) ) (call_b hC.ts TC_X9_refusalAt TN_X9 TM_X9_116 hd_X9_refusalAt ⟨Nat.le_of_ble_eq_true rfl, Nat.le_of_ble_eq_true rfl⟩) TI_X9_refusalAt TS_X9_refusalAt (ct_bench G _ _) rfl rfl rfl (Nat.le_of_ble_eq_true rfl) dX9_way_23 ⟨Nat.le_of_ble_eq_true rfl, Nat.le_of_ble_eq_true rfl⟩) hS (fun v_8 H locs w_9 hR hS => ?_)
    rcases w_9 with ⟨rfl, f_10⟩ | ⟨rfl, f_11, f_12, f_13⟩
    · skip
      exact reti hC hK hR hS (by first | exact Or.inl (⟨by first | rfl | omega, by first | rfl | assumption, by rfl, by first | omega | assumption⟩) | exact False.elim (by omega)) dX9_way_26
    · skip
      exact reti hC hK hR hS (by first | exact Or.inr (Or.inl (⟨by first | rfl | omega, by first | rfl | assumption, by rfl, by first | omega | assumption, by first | omega | assumption, by first | omega | assumption⟩)) | exact False.elim (by omega)) dX9_way_26
  · skip
    have hq_14 : q < 24 := by omega
    refine lv_astore_n (lv' := [(3, .ref (G.2.1 (104 + q))), (0, .ref (G.2.1 0)), (1, .int pl), (2, .int xa)]) hC.x hC.b dX9_way_8 rfl hl (by decide) rfl (fun ls hl => ?_)
    refine lv_aload_n hC.x hC.b dX9_way_9 rfl (lv_at hl 0 rfl) ?_
    refine lv_ifnull hC.x hC.b dX9_way_10 ?_
    refine lv_aload_n hC.x hC.b dX9_way_13 rfl (lv_at hl 0 rfl) ?_
    refine rget hC hK hR (ct_link hq_14 G _ _) rfl uin_X4 0 (by decide) TF_X9_129 rfl dX9_way_14 ?_
    refine lv_iconst (v := 5) hC.x hC.b dX9_way_17 (by decide) ?_
    refine bi_eq (tgt := 27) (a := (σ (104 + q) 0).toInt) (b := 5) hC.x hC.b rfl rfl dX9_way_18 (by decide) (fun c_15 => ?_) (fun c_15 => ?_)
    · skip
      refine lv_iload_n hC.x hC.b dX9_way_27 rfl (lv_at hl 3 rfl) ?_
      refine lv_sipush (v := 10000) hC.x hC.b dX9_way_28 (by decide) ?_
      have av_16 : (10000 : Int32).toInt = 10000 := by decide
      refine goip (runS (As := [.int xa, .int (10000 : Int32)]) (rest := []) hC hK hR hl.1 (c_X9_isWithin l hG σ τ xa (10000 : Int32) (by first | decide | omega)) (call_b hC.ts TC_X9_isWithin TN_X9 TM_X9_119 hd_X9_isWithin ⟨Nat.le_of_ble_eq_true rfl, Nat.le_of_ble_eq_true rfl⟩) TT_X9_isWithin rfl rfl (Nat.le_of_ble_eq_true rfl) dX9_way_31 ⟨Nat.le_of_ble_eq_true rfl, Nat.le_of_ble_eq_true rfl⟩) hS (fun v_17 H locs w_18 hR hS => ?_)
      rcases w_18 with ⟨rfl, f_19, f_20⟩ | ⟨rfl, f_21⟩
      · skip
        refine bz_ne (tgt := 39) (a := 1) (b := 0) hC.x hC.b rfl rfl dX9_way_34 (by decide) (fun _ => ?_) (fun c_22 => absurd c_22 (by decide))
        refine lv_aload_n hC.x hC.b dX9_way_39 rfl (lv_at hl 0 rfl) ?_
        refine lv_iload_n hC.x hC.b dX9_way_40 rfl (lv_at hl 3 rfl) ?_
        refine rputi hC hK hG hR hS (ct_link hq_14 G _ _) rfl uin_X4 tyX4 tyX4_ok nmX4 3 (by decide) TF_X9_139 rfl (Or.inl rfl) (Nat.le_of_ble_eq_true rfl) rfl (ct_link hq_14 G _ _) dX9_way_41 (fun s_24 es_23 H locs hR hS => ?_)
        refine lv_iconst (v := 1) hC.x hC.b dX9_way_44 (by decide) ?_
        exact reti hC hK hR hS (by first | exact Or.inr (Or.inr ((⟨by subst es_23; (first | rfl | omega), by subst es_23; (first | rfl | assumption), by subst es_23; (rfl), by subst es_23; (first | omega | assumption), by subst es_23; (first | omega | assumption), by subst es_23; (first | omega | assumption), by subst es_23; (first | omega | assumption)⟩))) | exact False.elim (by omega)) dX9_way_45
      · skip
        refine bz_ne (tgt := 39) (a := 0) (b := 0) hC.x hC.b rfl rfl dX9_way_34 (by decide) (fun c_25 => absurd c_25 (by decide)) (fun _ => ?_)
        refine lv_iconst (v := (-1)) hC.x hC.b dX9_way_37 (by decide) ?_
        exact reti hC hK hR hS (by first | exact Or.inl (⟨by first | rfl | omega, by first | rfl | assumption, by rfl, by first | omega | assumption⟩) | exact False.elim (by omega)) dX9_way_38
    · skip
      refine lv_aload_n hC.x hC.b dX9_way_21 rfl (lv_at hl 1 rfl) ?_
      refine lv_iload_n hC.x hC.b dX9_way_22 rfl (lv_at hl 2 rfl) ?_
      refine goip (runV (As := [.int pl]) (rest := []) hC hK hR hl.1 (c_X9_refusalAt l hG σ τ pl q (by first | rfl | (rw [show pl.toInt = pl.toInt from rfl]; done) | (rw [show pl.toInt = pl.toInt from rfl]; exact hp_q)) ) (call_b hC.ts TC_X9_refusalAt TN_X9 TM_X9_116 hd_X9_refusalAt ⟨Nat.le_of_ble_eq_true rfl, Nat.le_of_ble_eq_true rfl⟩) TI_X9_refusalAt TS_X9_refusalAt (ct_bench G _ _) rfl rfl rfl (Nat.le_of_ble_eq_true rfl) dX9_way_23 ⟨Nat.le_of_ble_eq_true rfl, Nat.le_of_ble_eq_true rfl⟩) hS (fun v_26 H locs w_27 hR hS => ?_)
      rcases w_27 with ⟨rfl, f_28⟩ | ⟨rfl, f_29, f_30, f_31⟩
      · skip
        exact reti hC hK hR hS (by first | exact Or.inl (⟨by first | rfl | omega, by first | rfl | assumption, by rfl, by first | omega | assumption⟩) | exact False.elim (by omega)) dX9_way_26
      · skip
        exact reti hC hK hR hS (by first | exact Or.inr (Or.inl (⟨by first | rfl | omega, by first | rfl | assumption, by rfl, by first | omega | assumption, by first | omega | assumption, by first | omega | assumption⟩)) | exact False.elim (by omega)) dX9_way_26

abbrev po_X9_tells (σ : SI) (τ : SL) (pl : Int32) (q : Nat) (hr : Int32) : Int32 → SI × SL → Prop := fun v u => u = (σ, τ) ∧ (((v = (-1)) ∧ ((¬ (0 ≤ pl.toInt ∧ pl.toInt < 24)) ∨ (σ 2 q).toInt = -1)) ∨ ((v = (-2)) ∧ (0 ≤ pl.toInt ∧ pl.toInt < 24) ∧ ((σ 2 q).toInt ≠ -1) ∧ (¬ (4 ≤ (σ 2 q).toInt ∧ (σ 2 q).toInt ≤ 6))) ∨ ((v = toldC σ q hr) ∧ (0 ≤ pl.toInt ∧ pl.toInt < 24) ∧ (4 ≤ (σ 2 q).toInt ∧ (σ 2 q).toInt ≤ 6) ∧ (0 ≤ hr.toInt) ∧ (hr.toInt ≤ (σ 0 8).toInt)) ∨ ((v = (1000000)) ∧ (0 ≤ pl.toInt ∧ pl.toInt < 24) ∧ (4 ≤ (σ 2 q).toInt ∧ (σ 2 q).toInt ≤ 6) ∧ (¬ (0 ≤ hr.toInt ∧ hr.toInt ≤ (σ 0 8).toInt))))
set_option maxRecDepth 100000 in
set_option maxHeartbeats 4000000 in
theorem c_X9_tells (l : Launch) {G : Gx} {A : Nat → Prop} (hG : GOk G A) (σ : SI) (τ : SL) (pl : Int32) (q : Nat) (hp_q : pl.toInt.toNat = q) (hr : Int32) : MI l G A 2 yX9_tells cX9_tells 4 (some .int) [.ref (G.2.1 0), .int pl, .int hr] (σ, τ) (po_X9_tells σ τ pl q hr) := by
  refine met_of (own := RX9) (by decide +kernel) rfl [(0, .ref (G.2.1 0)), (1, .int pl), (2, .int hr)] rfl (Nat.le_of_ble_eq_true rfl) ?_
  intro p e s m args below meth c ls hC hK hR hl
  have hS : va_S A s.heap s.heap [] := va_S.rf
  refine lv_aload_n hC.x hC.b dX9_tells_0 rfl (lv_at hl 0 rfl) ?_
  refine rget hC hK hR (ct_bench G _ _) rfl uin_X9 0 (by decide) TF_X9_10 rfl dX9_tells_1 ?_
  refine lv_iload_n hC.x hC.b dX9_tells_4 rfl (lv_at hl 1 rfl) ?_
  refine goqp (runV (As := [.int pl]) (rest := []) hC hK hR hl.1 (c_X5_linkAt l hG σ τ pl q (by first | rfl | (rw [show pl.toInt = pl.toInt from rfl]; done) | (rw [show pl.toInt = pl.toInt from rfl]; exact hp_q)) ) (call_b hC.ts TC_X5_linkAt TN_X5 TM_X9_112 hd_X5_linkAt ⟨Nat.le_of_ble_eq_true rfl, Nat.le_of_ble_eq_true rfl⟩) TI_X5_linkAt TS_X5_linkAt (ct_shelf G _ _) rfl rfl rfl (Nat.le_of_ble_eq_true rfl) dX9_tells_5 ⟨Nat.le_of_ble_eq_true rfl, Nat.le_of_ble_eq_true rfl⟩) hS (fun v_1 H locs w_2 hR hS => ?_)
  rcases w_2 with ⟨rfl, f_3⟩ | ⟨rfl, f_4, f_5, f_6, f_7⟩
  · skip
    refine lv_astore_nN (lv' := [(3, .null), (0, .ref (G.2.1 0)), (1, .int pl), (2, .int hr)]) hC.x hC.b dX9_tells_8 rfl hl (by decide) rfl (fun ls hl => ?_)
    refine lv_aload_nN hC.x hC.b dX9_tells_9 rfl (lv_at hl 0 rfl) ?_
    refine lv_ifnonnullN hC.x hC.b dX9_tells_10 ?_
    refine lv_aload_n hC.x hC.b dX9_tells_13 rfl (lv_at hl 1 rfl) ?_
    refine lv_iload_n hC.x hC.b dX9_tells_14 rfl (lv_at hl 2 rfl) ?_
    refine goip (runV (As := [.int pl]) (rest := []) hC hK hR hl.1 (c_X9_refusalAt l hG σ τ pl q (by first | rfl | (rw [show pl.toInt = pl.toInt from rfl]; done) | (rw [show pl.toInt = pl.toInt from rfl]; exact hp_q)) ) (call_b hC.ts TC_X9_refusalAt TN_X9 TM_X9_116 hd_X9_refusalAt ⟨Nat.le_of_ble_eq_true rfl, Nat.le_of_ble_eq_true rfl⟩) TI_X9_refusalAt TS_X9_refusalAt (ct_bench G _ _) rfl rfl rfl (Nat.le_of_ble_eq_true rfl) dX9_tells_15 ⟨Nat.le_of_ble_eq_true rfl, Nat.le_of_ble_eq_true rfl⟩) hS (fun v_8 H locs w_9 hR hS => ?_)
    rcases w_9 with ⟨rfl, f_10⟩ | ⟨rfl, f_11, f_12, f_13⟩
    · skip
      exact reti hC hK hR hS ⟨rfl, (by first | exact Or.inl (⟨by rfl, by first | omega | assumption⟩) | exact Or.inr (Or.inr (Or.inl (⟨by rfl, by first | omega | assumption, by first | omega | assumption, by first | omega | assumption, by first | omega | assumption⟩))) | exact False.elim (by omega))⟩ dX9_tells_18
    · skip
      exact reti hC hK hR hS ⟨rfl, (by first | exact Or.inr (Or.inl (⟨by rfl, by first | omega | assumption, by first | omega | assumption, by first | omega | assumption⟩)) | exact Or.inr (Or.inr (Or.inl (⟨by rfl, by first | omega | assumption, by first | omega | assumption, by first | omega | assumption, by first | omega | assumption⟩))) | exact False.elim (by omega))⟩ dX9_tells_18
  · skip
    have hq_14 : q < 24 := by omega
    refine lv_astore_n (lv' := [(3, .ref (G.2.1 (104 + q))), (0, .ref (G.2.1 0)), (1, .int pl), (2, .int hr)]) hC.x hC.b dX9_tells_8 rfl hl (by decide) rfl (fun ls hl => ?_)
    refine lv_aload_n hC.x hC.b dX9_tells_9 rfl (lv_at hl 0 rfl) ?_
    refine lv_ifnonnull (tgt := 19) hC.x hC.b dX9_tells_10 (by decide) ?_
    refine lv_aload_n hC.x hC.b dX9_tells_19 rfl (lv_at hl 1 rfl) ?_
    refine lv_iload_n hC.x hC.b dX9_tells_20 rfl (lv_at hl 3 rfl) ?_
    refine goip (runV (As := [.int hr]) (rest := []) hC hK hR hl.1 (c_X9_hasCome l hG σ τ hr ) (call_b hC.ts TC_X9_hasCome TN_X9 TM_X9_142 hd_X9_hasCome ⟨Nat.le_of_ble_eq_true rfl, Nat.le_of_ble_eq_true rfl⟩) TI_X9_hasCome TS_X9_hasCome (ct_bench G _ _) rfl rfl rfl (Nat.le_of_ble_eq_true rfl) dX9_tells_21 ⟨Nat.le_of_ble_eq_true rfl, Nat.le_of_ble_eq_true rfl⟩) hS (fun v_15 H locs w_16 hR hS => ?_)
    rcases w_16 with ⟨rfl, f_17, f_18⟩ | ⟨rfl, f_19⟩
    · skip
      refine bz_eq (tgt := 35) (a := 1) (b := 0) hC.x hC.b rfl rfl dX9_tells_24 (by decide) (fun c_20 => absurd c_20 (by decide)) (fun _ => ?_)
      refine lv_aload_n hC.x hC.b dX9_tells_27 rfl (lv_at hl 0 rfl) ?_
      refine lv_iload_n hC.x hC.b dX9_tells_28 rfl (lv_at hl 3 rfl) ?_
      refine goip (runV (As := [.int hr]) (rest := []) hC hK hR hl.1 (c_X4_toldAt l hG σ τ q hq_14 hr ) (call_b hC.ts TC_X4_toldAt TN_X4 TM_X9_145 hd_X4_toldAt ⟨Nat.le_of_ble_eq_true rfl, Nat.le_of_ble_eq_true rfl⟩) TI_X4_toldAt TS_X4_toldAt (ct_link hq_14 G _ _) rfl rfl rfl (Nat.le_of_ble_eq_true rfl) dX9_tells_29 ⟨Nat.le_of_ble_eq_true rfl, Nat.le_of_ble_eq_true rfl⟩) hS (fun v_21 H locs w_22 hR hS => ?_)
      subst w_22
      refine lv_goto (tgt := 37) hC.x hC.b dX9_tells_32 (by decide) ?_
      exact reti hC hK hR hS ⟨rfl, (by first | exact Or.inl (⟨by rfl, by first | omega | assumption⟩) | exact Or.inr (Or.inl (⟨by rfl, by first | omega | assumption, by first | omega | assumption, by first | omega | assumption⟩)) | exact Or.inr (Or.inr (Or.inl (⟨by rfl, by first | omega | assumption, by first | omega | assumption, by first | omega | assumption, by first | omega | assumption⟩))) | exact Or.inr (Or.inr (Or.inr ((⟨by rfl, by first | omega | assumption, by first | omega | assumption, by first | omega | assumption⟩)))) | exact False.elim (by omega))⟩ dX9_tells_37
    · skip
      refine bz_eq (tgt := 35) (a := 0) (b := 0) hC.x hC.b rfl rfl dX9_tells_24 (by decide) (fun _ => ?_) (fun c_23 => absurd c_23 (by decide))
      refine lv_ldc hC.x hC.b hC.ow (hC.ts _ TK_X9_148) dX9_tells_35 ?_
      exact reti hC hK hR hS ⟨rfl, (by first | exact Or.inr (Or.inr (Or.inl (⟨by rfl, by first | omega | assumption, by first | omega | assumption, by first | omega | assumption, by first | omega | assumption⟩))) | exact Or.inr (Or.inr (Or.inr ((⟨by rfl, by first | omega | assumption, by first | omega | assumption, by first | omega | assumption⟩)))) | exact False.elim (by omega))⟩ dX9_tells_37

abbrev po_X9_difference (σ : SI) (τ : SL) (xa : Int32) (xq : Nat) (ya : Int32) (yq : Nat) (hr : Int32) : Int32 → SI × SL → Prop := fun v u => ((Fr (fun k => 12 ≤ k ∧ k ≤ 17) σ u.1))
set_option maxRecDepth 100000 in
set_option maxHeartbeats 4000000 in
theorem c_X9_difference (l : Launch) {G : Gx} {A : Nat → Prop} (hG : GOk G A) (σ : SI) (τ : SL) (xa : Int32) (xq : Nat) (hp_xq : xa.toInt.toNat = xq) (ya : Int32) (yq : Nat) (hp_yq : ya.toInt.toNat = yq) (hr : Int32) : MI l G A 5 yX9_difference cX9_difference 6 (some .int) [.ref (G.2.1 0), .int xa, .int ya, .int hr] (σ, τ) (po_X9_difference σ τ xa xq ya yq hr) := by
  refine met_of (own := RX9) (by decide +kernel) rfl [(0, .ref (G.2.1 0)), (1, .int xa), (2, .int ya), (3, .int hr)] rfl (Nat.le_of_ble_eq_true rfl) ?_
  intro p e s m args below meth c ls hC hK hR hl
  have hS : va_S A s.heap s.heap [] := va_S.rf
  refine lv_aload_n hC.x hC.b dX9_difference_0 rfl (lv_at hl 0 rfl) ?_
  refine lv_iload_n hC.x hC.b dX9_difference_1 rfl (lv_at hl 1 rfl) ?_
  refine lv_iload_n hC.x hC.b dX9_difference_2 rfl (lv_at hl 2 rfl) ?_
  refine goip (runV (As := [.int xa, .int ya]) (rest := []) hC hK hR hl.1 (c_X9_refusalOfClocks l hG σ τ xa xq (by first | rfl | (rw [show xa.toInt = xa.toInt from rfl]; done) | (rw [show xa.toInt = xa.toInt from rfl]; exact hp_xq)) ya yq (by first | rfl | (rw [show ya.toInt = ya.toInt from rfl]; done) | (rw [show ya.toInt = ya.toInt from rfl]; exact hp_yq)) ) (call_b hC.ts TC_X9_refusalOfClocks TN_X9 TM_X9_149 hd_X9_refusalOfClocks ⟨Nat.le_of_ble_eq_true rfl, Nat.le_of_ble_eq_true rfl⟩) TI_X9_refusalOfClocks TS_X9_refusalOfClocks (ct_bench G _ _) rfl rfl rfl (Nat.le_of_ble_eq_true rfl) dX9_difference_3 ⟨Nat.le_of_ble_eq_true rfl, Nat.le_of_ble_eq_true rfl⟩) hS (fun v_1 H locs w_2 hR hS => ?_)
  rcases w_2 with rfl | rfl | rfl
  · skip
    refine lv_istore (lv' := [(4, .int (0 : Int32)), (0, .ref (G.2.1 0)), (1, .int xa), (2, .int ya), (3, .int hr)]) hC.x hC.b dX9_difference_6 hl (by decide) rfl (fun ls hl => ?_)
    refine lv_iload hC.x hC.b dX9_difference_8 (lv_at hl 0 rfl) ?_
    refine bz_eq (tgt := 16) (a := 0) (b := 0) hC.x hC.b rfl rfl dX9_difference_10 (by decide) (fun _ => ?_) (fun c_3 => absurd c_3 (by decide))
    refine lv_aload_n hC.x hC.b dX9_difference_16 rfl (lv_at hl 1 rfl) ?_
    refine lv_iload_n hC.x hC.b dX9_difference_17 rfl (lv_at hl 2 rfl) ?_
    refine lv_iload_n hC.x hC.b dX9_difference_18 rfl (lv_at hl 3 rfl) ?_
    refine lv_iload_n hC.x hC.b dX9_difference_19 rfl (lv_at hl 4 rfl) ?_
    refine goi (runV (As := [.int xa, .int ya, .int hr]) (rest := []) hC hK hR hl.1 (c_X9_findWay l hG σ τ xa ya hr ) (call_b hC.ts TC_X9_findWay TN_X9 TM_X9_153 hd_X9_findWay ⟨Nat.le_of_ble_eq_true rfl, Nat.le_of_ble_eq_true rfl⟩) TI_X9_findWay TS_X9_findWay (ct_bench G _ _) rfl rfl rfl (Nat.le_of_ble_eq_true rfl) dX9_difference_20 ⟨Nat.le_of_ble_eq_true rfl, Nat.le_of_ble_eq_true rfl⟩) hS (fun v_4 s_6 t_7 H locs w_5 hR hS => ?_)
    try dsimp only [po_X9_findWay] at w_5
    have f_8 := w_5
    refine lv_iconst (v := (-1)) hC.x hC.b dX9_difference_23 (by decide) ?_
    refine bi_ne (tgt := 30) (a := v_4.toInt) (b := (-1)) hC.x hC.b rfl rfl dX9_difference_24 (by decide) (fun c_9 => ?_) (fun c_9 => ?_)
    · skip
      refine lv_aload_n hC.x hC.b dX9_difference_30 rfl (lv_at hl 1 rfl) ?_
      refine rget hC hK hR (ct_bench G _ _) rfl uin_X9 3 (by decide) TF_X9_35 rfl dX9_difference_31 ?_
      refine lv_iload_n hC.x hC.b dX9_difference_34 rfl (lv_at hl 2 rfl) ?_
      refine lv_iload_n hC.x hC.b dX9_difference_35 rfl (lv_at hl 3 rfl) ?_
      refine goip (runS (As := [.int xa, .int ya]) (rest := [.ref (G.2.1 12)]) hC hK hR hl.1 (c_J9_max_7cf53 l hG s_6 t_7 xa ya ) (call_b hC.ts TC_J9_max_7cf53 TN_J9 TM_X9_157 hd_J9_max_7cf53 ⟨Nat.le_of_ble_eq_true rfl, Nat.le_of_ble_eq_true rfl⟩) TT_J9_max_7cf53 rfl rfl (Nat.le_of_ble_eq_true rfl) dX9_difference_36 ⟨Nat.le_of_ble_eq_true rfl, Nat.le_of_ble_eq_true rfl⟩) hS (fun v_10 H locs w_11 hR hS => ?_)
      have f_12 := w_11
      refine goip (runV (As := [.int v_10]) (rest := []) hC hK hR hl.1 (c_X8_sumTo l hG s_6 t_7 v_10 ) (call_b hC.ts TC_X8_sumTo TN_X8 TM_X9_162 hd_X8_sumTo ⟨Nat.le_of_ble_eq_true rfl, Nat.le_of_ble_eq_true rfl⟩) TI_X8_sumTo TS_X8_sumTo (ct_ways G _ _) rfl rfl rfl (Nat.le_of_ble_eq_true rfl) dX9_difference_39 ⟨Nat.le_of_ble_eq_true rfl, Nat.le_of_ble_eq_true rfl⟩) hS (fun v_13 H locs w_14 hR hS => ?_)
      refine lv_istore (lv' := [(5, .int v_13), (4, .int (0 : Int32)), (0, .ref (G.2.1 0)), (1, .int xa), (2, .int ya), (3, .int hr)]) hC.x hC.b dX9_difference_42 hl (by decide) rfl (fun ls hl => ?_)
      refine lv_iload_n hC.x hC.b dX9_difference_44 rfl (lv_at hl 3 rfl) ?_
      refine lv_iload_n hC.x hC.b dX9_difference_45 rfl (lv_at hl 4 rfl) ?_
      refine bi_gt (tgt := 54) (a := xa.toInt) (b := ya.toInt) hC.x hC.b rfl rfl dX9_difference_46 (by decide) (fun c_15 => ?_) (fun c_15 => ?_)
      · skip
        refine lv_iload hC.x hC.b dX9_difference_54 (lv_at hl 0 rfl) ?_
        refine lv_ineg hC.x hC.b dX9_difference_56 ?_
        exact reti hC hK hR hS (by exact (Fr.tr Fr.rf f_8)) dX9_difference_57
      · skip
        refine lv_iload hC.x hC.b dX9_difference_49 (lv_at hl 0 rfl) ?_
        refine lv_goto (tgt := 57) hC.x hC.b dX9_difference_51 (by decide) ?_
        exact reti hC hK hR hS (by exact (Fr.tr Fr.rf f_8)) dX9_difference_57
    · skip
      refine lv_ldc hC.x hC.b hC.ow (hC.ts _ TK_X9_148) dX9_difference_27 ?_
      exact reti hC hK hR hS (by exact (Fr.tr Fr.rf f_8)) dX9_difference_29
  · skip
    refine lv_istore (lv' := [(4, .int (-1 : Int32)), (0, .ref (G.2.1 0)), (1, .int xa), (2, .int ya), (3, .int hr)]) hC.x hC.b dX9_difference_6 hl (by decide) rfl (fun ls hl => ?_)
    refine lv_iload hC.x hC.b dX9_difference_8 (lv_at hl 0 rfl) ?_
    refine bz_eq (tgt := 16) (a := (-1)) (b := 0) hC.x hC.b rfl rfl dX9_difference_10 (by decide) (fun c_16 => absurd c_16 (by decide)) (fun _ => ?_)
    refine lv_iload hC.x hC.b dX9_difference_13 (lv_at hl 0 rfl) ?_
    exact reti hC hK hR hS (by exact Fr.rf) dX9_difference_15
  · skip
    refine lv_istore (lv' := [(4, .int (-2 : Int32)), (0, .ref (G.2.1 0)), (1, .int xa), (2, .int ya), (3, .int hr)]) hC.x hC.b dX9_difference_6 hl (by decide) rfl (fun ls hl => ?_)
    refine lv_iload hC.x hC.b dX9_difference_8 (lv_at hl 0 rfl) ?_
    refine bz_eq (tgt := 16) (a := (-2)) (b := 0) hC.x hC.b rfl rfl dX9_difference_10 (by decide) (fun c_17 => absurd c_17 (by decide)) (fun _ => ?_)
    refine lv_iload hC.x hC.b dX9_difference_13 (lv_at hl 0 rfl) ?_
    exact reti hC hK hR hS (by exact Fr.rf) dX9_difference_15

abbrev po_X9_along (σ : SI) (τ : SL) (xa : Int32) (xq : Nat) (ya : Int32) (yq : Nat) (hr : Int32) : Int32 → SI × SL → Prop := fun v u => ((AL σ u.1))
set_option maxRecDepth 100000 in
set_option maxHeartbeats 4000000 in
theorem c_X9_along (l : Launch) {G : Gx} {A : Nat → Prop} (hG : GOk G A) (σ : SI) (τ : SL) (xa : Int32) (xq : Nat) (hp_xq : xa.toInt.toNat = xq) (ya : Int32) (yq : Nat) (hp_yq : ya.toInt.toNat = yq) (hr : Int32) : MI l G A 5 yX9_along cX9_along 6 (some .int) [.ref (G.2.1 0), .int xa, .int ya, .int hr] (σ, τ) (po_X9_along σ τ xa xq ya yq hr) := by
  refine met_of (own := RX9) (by decide +kernel) rfl [(0, .ref (G.2.1 0)), (1, .int xa), (2, .int ya), (3, .int hr)] rfl (Nat.le_of_ble_eq_true rfl) ?_
  intro p e s m args below meth c ls hC hK hR hl
  have hS : va_S A s.heap s.heap [] := va_S.rf
  refine lv_aload_n hC.x hC.b dX9_along_0 rfl (lv_at hl 0 rfl) ?_
  refine lv_iload_n hC.x hC.b dX9_along_1 rfl (lv_at hl 1 rfl) ?_
  refine lv_iload_n hC.x hC.b dX9_along_2 rfl (lv_at hl 2 rfl) ?_
  refine goip (runV (As := [.int xa, .int ya]) (rest := []) hC hK hR hl.1 (c_X9_refusalOfClocks l hG σ τ xa xq (by first | rfl | (rw [show xa.toInt = xa.toInt from rfl]; done) | (rw [show xa.toInt = xa.toInt from rfl]; exact hp_xq)) ya yq (by first | rfl | (rw [show ya.toInt = ya.toInt from rfl]; done) | (rw [show ya.toInt = ya.toInt from rfl]; exact hp_yq)) ) (call_b hC.ts TC_X9_refusalOfClocks TN_X9 TM_X9_149 hd_X9_refusalOfClocks ⟨Nat.le_of_ble_eq_true rfl, Nat.le_of_ble_eq_true rfl⟩) TI_X9_refusalOfClocks TS_X9_refusalOfClocks (ct_bench G _ _) rfl rfl rfl (Nat.le_of_ble_eq_true rfl) dX9_along_3 ⟨Nat.le_of_ble_eq_true rfl, Nat.le_of_ble_eq_true rfl⟩) hS (fun v_1 H locs w_2 hR hS => ?_)
  rcases w_2 with rfl | rfl | rfl
  · skip
    refine lv_istore (lv' := [(4, .int (0 : Int32)), (0, .ref (G.2.1 0)), (1, .int xa), (2, .int ya), (3, .int hr)]) hC.x hC.b dX9_along_6 hl (by decide) rfl (fun ls hl => ?_)
    refine lv_iload hC.x hC.b dX9_along_8 (lv_at hl 0 rfl) ?_
    refine bz_eq (tgt := 16) (a := 0) (b := 0) hC.x hC.b rfl rfl dX9_along_10 (by decide) (fun _ => ?_) (fun c_3 => absurd c_3 (by decide))
    refine lv_aload_n hC.x hC.b dX9_along_16 rfl (lv_at hl 1 rfl) ?_
    refine lv_iload_n hC.x hC.b dX9_along_17 rfl (lv_at hl 2 rfl) ?_
    refine lv_iload_n hC.x hC.b dX9_along_18 rfl (lv_at hl 3 rfl) ?_
    refine lv_iload_n hC.x hC.b dX9_along_19 rfl (lv_at hl 4 rfl) ?_
    refine goi (runV (As := [.int xa, .int ya, .int hr]) (rest := []) hC hK hR hl.1 (c_X9_findWay l hG σ τ xa ya hr ) (call_b hC.ts TC_X9_findWay TN_X9 TM_X9_153 hd_X9_findWay ⟨Nat.le_of_ble_eq_true rfl, Nat.le_of_ble_eq_true rfl⟩) TI_X9_findWay TS_X9_findWay (ct_bench G _ _) rfl rfl rfl (Nat.le_of_ble_eq_true rfl) dX9_along_20 ⟨Nat.le_of_ble_eq_true rfl, Nat.le_of_ble_eq_true rfl⟩) hS (fun v_4 s_6 t_7 H locs w_5 hR hS => ?_)
    try dsimp only [po_X9_findWay] at w_5
    have f_8 := w_5
    refine lv_istore (lv' := [(5, .int v_4), (4, .int (0 : Int32)), (0, .ref (G.2.1 0)), (1, .int xa), (2, .int ya), (3, .int hr)]) hC.x hC.b dX9_along_23 hl (by decide) rfl (fun ls hl => ?_)
    refine lv_aload_n hC.x hC.b dX9_along_25 rfl (lv_at hl 2 rfl) ?_
    refine lv_iconst (v := 0) hC.x hC.b dX9_along_26 (by decide) ?_
    refine lv_iload hC.x hC.b dX9_along_27 (lv_at hl 0 rfl) ?_
    have av_9 : (0 : Int32).toInt = 0 := by decide
    refine goip (runS (As := [.int (0 : Int32), .int v_4]) (rest := [.ref (G.2.1 0)]) hC hK hR hl.1 (c_J9_max_7cf53 l hG s_6 t_7 (0 : Int32) v_4 ) (call_b hC.ts TC_J9_max_7cf53 TN_J9 TM_X9_157 hd_J9_max_7cf53 ⟨Nat.le_of_ble_eq_true rfl, Nat.le_of_ble_eq_true rfl⟩) TT_J9_max_7cf53 rfl rfl (Nat.le_of_ble_eq_true rfl) dX9_along_29 ⟨Nat.le_of_ble_eq_true rfl, Nat.le_of_ble_eq_true rfl⟩) hS (fun v_10 H locs w_11 hR hS => ?_)
    have f_12 := w_11
    refine rputi hC hK hG hR hS (ct_bench G _ _) rfl uin_X9 tyX9 tyX9_ok nmX9 7 (by decide) TF_X9_61 rfl (Or.inl rfl) (Nat.le_of_ble_eq_true rfl) rfl (ct_bench G _ _) dX9_along_32 (fun s_14 es_13 H locs hR hS => ?_)
    refine lv_aload_n hC.x hC.b dX9_along_35 rfl (lv_at hl 2 rfl) ?_
    refine rget hC hK hR (ct_bench G _ _) rfl uin_X9 3 (by decide) TF_X9_35 rfl dX9_along_36 ?_
    refine lv_iload_n hC.x hC.b dX9_along_39 rfl (lv_at hl 3 rfl) ?_
    refine lv_iload_n hC.x hC.b dX9_along_40 rfl (lv_at hl 4 rfl) ?_
    refine goip (runS (As := [.int xa, .int ya]) (rest := [.ref (G.2.1 12)]) hC hK hR hl.1 (c_J9_max_7cf53 l hG s_14 t_7 xa ya ) (call_b hC.ts TC_J9_max_7cf53 TN_J9 TM_X9_157 hd_J9_max_7cf53 ⟨Nat.le_of_ble_eq_true rfl, Nat.le_of_ble_eq_true rfl⟩) TT_J9_max_7cf53 rfl rfl (Nat.le_of_ble_eq_true rfl) dX9_along_41 ⟨Nat.le_of_ble_eq_true rfl, Nat.le_of_ble_eq_true rfl⟩) hS (fun v_15 H locs w_16 hR hS => ?_)
    have f_17 := w_16
    refine lv_aload_n hC.x hC.b dX9_along_44 rfl (lv_at hl 2 rfl) ?_
    refine rget hC hK hR (ct_bench G _ _) rfl uin_X9 7 (by decide) TF_X9_61 rfl dX9_along_45 ?_
    have rd_18 : (s_14 0 7).toInt = v_10.toInt := congrArg Int32.toInt (show s_14 0 7 = v_10 from (by rw [es_13]; exact up2_s))
    refine lv_iload_n hC.x hC.b dX9_along_48 rfl (lv_at hl 3 rfl) ?_
    refine lv_iload_n hC.x hC.b dX9_along_49 rfl (lv_at hl 4 rfl) ?_
    refine bi_le (tgt := 57) (a := xa.toInt) (b := ya.toInt) hC.x hC.b rfl rfl dX9_along_50 (by decide) (fun c_19 => ?_) (fun c_19 => ?_)
    · skip
      refine lv_iconst (v := 0) hC.x hC.b dX9_along_57 (by decide) ?_
      refine lv_aload_n hC.x hC.b dX9_along_58 rfl (lv_at hl 2 rfl) ?_
      refine rget hC hK hR (ct_bench G _ _) rfl uin_X9 6 (by decide) TF_X9_57 rfl dX9_along_59 ?_
      have av_20 : (0 : Int32).toInt = 0 := by decide
      refine gov (runV (As := [.int v_15, .int (s_14 0 7), .int (0 : Int32), .ref (G.2.1 23)]) (rest := []) hC hK hR hl.1 (c_X8_writeWay l hG s_14 t_7 v_15 (s_14 0 7) (0 : Int32) ) (call_b hC.ts TC_X8_writeWay TN_X8 TM_X9_165 hd_X8_writeWay ⟨Nat.le_of_ble_eq_true rfl, Nat.le_of_ble_eq_true rfl⟩) TI_X8_writeWay TS_X8_writeWay (ct_ways G _ _) rfl rfl rfl (Nat.le_of_ble_eq_true rfl) dX9_along_62 ⟨Nat.le_of_ble_eq_true rfl, Nat.le_of_ble_eq_true rfl⟩) hS (fun s_23 t_24 H locs w_22 hR hS => ?_)
      try dsimp only [po_X8_writeWay] at w_22
      obtain ⟨et_25, f_26⟩ := w_22
      rw [et_25] at hR
      refine lv_iload hC.x hC.b dX9_along_65 (lv_at hl 0 rfl) ?_
      exact reti hC hK hR hS (by subst es_13; (first | exact AL.rf | exact AL.mk (by assumption) (by assumption))) dX9_along_67
    · skip
      refine lv_iconst (v := 1) hC.x hC.b dX9_along_53 (by decide) ?_
      refine lv_goto (tgt := 58) hC.x hC.b dX9_along_54 (by decide) ?_
      refine lv_aload_n hC.x hC.b dX9_along_58 rfl (lv_at hl 2 rfl) ?_
      refine rget hC hK hR (ct_bench G _ _) rfl uin_X9 6 (by decide) TF_X9_57 rfl dX9_along_59 ?_
      have av_27 : (1 : Int32).toInt = 1 := by decide
      refine gov (runV (As := [.int v_15, .int (s_14 0 7), .int (1 : Int32), .ref (G.2.1 23)]) (rest := []) hC hK hR hl.1 (c_X8_writeWay l hG s_14 t_7 v_15 (s_14 0 7) (1 : Int32) ) (call_b hC.ts TC_X8_writeWay TN_X8 TM_X9_165 hd_X8_writeWay ⟨Nat.le_of_ble_eq_true rfl, Nat.le_of_ble_eq_true rfl⟩) TI_X8_writeWay TS_X8_writeWay (ct_ways G _ _) rfl rfl rfl (Nat.le_of_ble_eq_true rfl) dX9_along_62 ⟨Nat.le_of_ble_eq_true rfl, Nat.le_of_ble_eq_true rfl⟩) hS (fun s_30 t_31 H locs w_29 hR hS => ?_)
      try dsimp only [po_X8_writeWay] at w_29
      obtain ⟨et_32, f_33⟩ := w_29
      rw [et_32] at hR
      refine lv_iload hC.x hC.b dX9_along_65 (lv_at hl 0 rfl) ?_
      exact reti hC hK hR hS (by subst es_13; (first | exact AL.rf | exact AL.mk (by assumption) (by assumption))) dX9_along_67
  · skip
    refine lv_istore (lv' := [(4, .int (-1 : Int32)), (0, .ref (G.2.1 0)), (1, .int xa), (2, .int ya), (3, .int hr)]) hC.x hC.b dX9_along_6 hl (by decide) rfl (fun ls hl => ?_)
    refine lv_iload hC.x hC.b dX9_along_8 (lv_at hl 0 rfl) ?_
    refine bz_eq (tgt := 16) (a := (-1)) (b := 0) hC.x hC.b rfl rfl dX9_along_10 (by decide) (fun c_34 => absurd c_34 (by decide)) (fun _ => ?_)
    refine lv_iload hC.x hC.b dX9_along_13 (lv_at hl 0 rfl) ?_
    exact reti hC hK hR hS (by first | exact AL.rf | exact AL.mk (by assumption) (by assumption)) dX9_along_15
  · skip
    refine lv_istore (lv' := [(4, .int (-2 : Int32)), (0, .ref (G.2.1 0)), (1, .int xa), (2, .int ya), (3, .int hr)]) hC.x hC.b dX9_along_6 hl (by decide) rfl (fun ls hl => ?_)
    refine lv_iload hC.x hC.b dX9_along_8 (lv_at hl 0 rfl) ?_
    refine bz_eq (tgt := 16) (a := (-2)) (b := 0) hC.x hC.b rfl rfl dX9_along_10 (by decide) (fun c_35 => absurd c_35 (by decide)) (fun _ => ?_)
    refine lv_iload hC.x hC.b dX9_along_13 (lv_at hl 0 rfl) ?_
    exact reti hC hK hR hS (by first | exact AL.rf | exact AL.mk (by assumption) (by assumption)) dX9_along_15

abbrev po_X9_link (σ : SI) (τ : SL) (ia : Int32) : Int32 → SI × SL → Prop := fun v u => u = (σ, τ) ∧ (True)
set_option maxRecDepth 100000 in
set_option maxHeartbeats 4000000 in
theorem c_X9_link (l : Launch) {G : Gx} {A : Nat → Prop} (hG : GOk G A) (σ : SI) (τ : SL) (ia : Int32) : MI l G A 0 yX9_link cX9_link 2 (some .int) [.ref (G.2.1 0), .int ia] (σ, τ) (po_X9_link σ τ ia) := by
  refine met_of (own := RX9) (by decide +kernel) rfl [(0, .ref (G.2.1 0)), (1, .int ia)] rfl (Nat.le_of_ble_eq_true rfl) ?_
  intro p e s m args below meth c ls hC hK hR hl
  have hS : va_S A s.heap s.heap [] := va_S.rf
  refine lv_iload_n hC.x hC.b dX9_link_0 rfl (lv_at hl 1 rfl) ?_
  refine bz_lt (tgt := 30) (a := ia.toInt) (b := 0) hC.x hC.b rfl rfl dX9_link_1 (by decide) (fun c_1 => ?_) (fun c_1 => ?_)
  · skip
    refine lv_iconst (v := (-1)) hC.x hC.b dX9_link_30 (by decide) ?_
    exact reti hC hK hR hS ⟨rfl, (trivial)⟩ dX9_link_31
  · skip
    refine lv_iload_n hC.x hC.b dX9_link_4 rfl (lv_at hl 1 rfl) ?_
    refine lv_aload_n hC.x hC.b dX9_link_5 rfl (lv_at hl 0 rfl) ?_
    refine rget hC hK hR (ct_bench G _ _) rfl uin_X9 7 (by decide) TF_X9_61 rfl dX9_link_6 ?_
    refine bi_ge (tgt := 30) (a := ia.toInt) (b := (σ 0 7).toInt) hC.x hC.b rfl rfl dX9_link_9 (by decide) (fun c_2 => ?_) (fun c_2 => ?_)
    · skip
      refine lv_iconst (v := (-1)) hC.x hC.b dX9_link_30 (by decide) ?_
      exact reti hC hK hR hS ⟨rfl, (trivial)⟩ dX9_link_31
    · skip
      refine lv_iload_n hC.x hC.b dX9_link_12 rfl (lv_at hl 1 rfl) ?_
      refine lv_aload_n hC.x hC.b dX9_link_13 rfl (lv_at hl 0 rfl) ?_
      refine rget hC hK hR (ct_bench G _ _) rfl uin_X9 6 (by decide) TF_X9_57 rfl dX9_link_14 ?_
      refine ralen (t := 0) hC hK hR (by decide) (ct_wayTold G _ _) (v := 24) rfl dX9_link_17 ?_
      refine bi_ge (tgt := 30) (a := ia.toInt) (b := 24) hC.x hC.b rfl rfl dX9_link_18 (by decide) (fun c_3 => ?_) (fun c_3 => ?_)
      · skip
        refine lv_iconst (v := (-1)) hC.x hC.b dX9_link_30 (by decide) ?_
        exact reti hC hK hR hS ⟨rfl, (trivial)⟩ dX9_link_31
      · skip
        refine lv_aload_n hC.x hC.b dX9_link_21 rfl (lv_at hl 0 rfl) ?_
        refine rget hC hK hR (ct_bench G _ _) rfl uin_X9 6 (by decide) TF_X9_57 rfl dX9_link_22 ?_
        refine lv_iload_n hC.x hC.b dX9_link_25 rfl (lv_at hl 1 rfl) ?_
        refine ald hC hK hR (ct_wayTold G _ _) rfl (by omega) (by omega) rfl dX9_link_26 ?_
        refine lv_goto (tgt := 31) hC.x hC.b dX9_link_27 (by decide) ?_
        exact reti hC hK hR hS ⟨rfl, (trivial)⟩ dX9_link_31

abbrev po_X9_take (σ : SI) (τ : SL) (pl : Int32) (q : Nat) : Int32 → SI × SL → Prop := fun v u => ((v = (-1)) ∧ (u.1 = σ) ∧ (u.2 = τ) ∧ ((¬ (0 ≤ pl.toInt ∧ pl.toInt < 24)) ∨ (σ 2 q).toInt = -1)) ∨ ((v = (-2)) ∧ (u.1 = σ) ∧ (u.2 = τ) ∧ (0 ≤ pl.toInt ∧ pl.toInt < 24) ∧ ((σ 2 q).toInt ≠ -1) ∧ (¬ (0 ≤ (σ 2 q).toInt ∧ (σ 2 q).toInt ≤ 3))) ∨ ((v = (1)) ∧ (u.1 = (up2 (up2 (up2 (up2 σ (80 + q) 8 (σ 0 8)) (80 + q) 7 0) (80 + q) 9 (-10)) (80 + q) 5 1)) ∧ (u.2 = τ) ∧ (0 ≤ pl.toInt ∧ pl.toInt < 24) ∧ (0 ≤ (σ 2 q).toInt ∧ (σ 2 q).toInt ≤ 3))
set_option maxRecDepth 100000 in
set_option maxHeartbeats 4000000 in
theorem c_X9_take (l : Launch) {G : Gx} {A : Nat → Prop} (hG : GOk G A) (σ : SI) (τ : SL) (pl : Int32) (q : Nat) (hp_q : pl.toInt.toNat = q) : MI l G A 2 yX9_take cX9_take 3 (some .int) [.ref (G.2.1 0), .int pl] (σ, τ) (po_X9_take σ τ pl q) := by
  refine met_of (own := RX9) (by decide +kernel) rfl [(0, .ref (G.2.1 0)), (1, .int pl)] rfl (Nat.le_of_ble_eq_true rfl) ?_
  intro p e s m args below meth c ls hC hK hR hl
  have hS : va_S A s.heap s.heap [] := va_S.rf
  refine lv_aload_n hC.x hC.b dX9_take_0 rfl (lv_at hl 0 rfl) ?_
  refine rget hC hK hR (ct_bench G _ _) rfl uin_X9 0 (by decide) TF_X9_10 rfl dX9_take_1 ?_
  refine lv_iload_n hC.x hC.b dX9_take_4 rfl (lv_at hl 1 rfl) ?_
  refine goqp (runV (As := [.int pl]) (rest := []) hC hK hR hl.1 (c_X5_clockAt l hG σ τ pl q (by first | rfl | (rw [show pl.toInt = pl.toInt from rfl]; done) | (rw [show pl.toInt = pl.toInt from rfl]; exact hp_q)) ) (call_b hC.ts TC_X5_clockAt TN_X5 TM_X9_169 hd_X5_clockAt ⟨Nat.le_of_ble_eq_true rfl, Nat.le_of_ble_eq_true rfl⟩) TI_X5_clockAt TS_X5_clockAt (ct_shelf G _ _) rfl rfl rfl (Nat.le_of_ble_eq_true rfl) dX9_take_5 ⟨Nat.le_of_ble_eq_true rfl, Nat.le_of_ble_eq_true rfl⟩) hS (fun v_1 H locs w_2 hR hS => ?_)
  rcases w_2 with ⟨rfl, f_3⟩ | ⟨rfl, f_4, f_5, f_6, f_7⟩
  · skip
    refine lv_astore_nN (lv' := [(2, .null), (0, .ref (G.2.1 0)), (1, .int pl)]) hC.x hC.b dX9_take_8 rfl hl (by decide) rfl (fun ls hl => ?_)
    refine lv_aload_nN hC.x hC.b dX9_take_9 rfl (lv_at hl 0 rfl) ?_
    refine lv_ifnonnullN hC.x hC.b dX9_take_10 ?_
    refine lv_aload_n hC.x hC.b dX9_take_13 rfl (lv_at hl 1 rfl) ?_
    refine lv_iload_n hC.x hC.b dX9_take_14 rfl (lv_at hl 2 rfl) ?_
    refine goip (runV (As := [.int pl]) (rest := []) hC hK hR hl.1 (c_X9_refusalAt l hG σ τ pl q (by first | rfl | (rw [show pl.toInt = pl.toInt from rfl]; done) | (rw [show pl.toInt = pl.toInt from rfl]; exact hp_q)) ) (call_b hC.ts TC_X9_refusalAt TN_X9 TM_X9_116 hd_X9_refusalAt ⟨Nat.le_of_ble_eq_true rfl, Nat.le_of_ble_eq_true rfl⟩) TI_X9_refusalAt TS_X9_refusalAt (ct_bench G _ _) rfl rfl rfl (Nat.le_of_ble_eq_true rfl) dX9_take_15 ⟨Nat.le_of_ble_eq_true rfl, Nat.le_of_ble_eq_true rfl⟩) hS (fun v_8 H locs w_9 hR hS => ?_)
    rcases w_9 with ⟨rfl, f_10⟩ | ⟨rfl, f_11, f_12, f_13⟩
    · skip
      exact reti hC hK hR hS (by first | exact Or.inl (⟨by first | rfl | omega, by first | rfl | assumption, by rfl, by first | omega | assumption⟩) | exact False.elim (by omega)) dX9_take_18
    · skip
      exact reti hC hK hR hS (by first | exact Or.inr (Or.inl (⟨by first | rfl | omega, by first | rfl | assumption, by rfl, by first | omega | assumption, by first | omega | assumption, by first | omega | assumption⟩)) | exact False.elim (by omega)) dX9_take_18
  · skip
    have hq_14 : q < 24 := by omega
    refine lv_astore_n (lv' := [(2, .ref (G.2.1 (80 + q))), (0, .ref (G.2.1 0)), (1, .int pl)]) hC.x hC.b dX9_take_8 rfl hl (by decide) rfl (fun ls hl => ?_)
    refine lv_aload_n hC.x hC.b dX9_take_9 rfl (lv_at hl 0 rfl) ?_
    refine lv_ifnonnull (tgt := 19) hC.x hC.b dX9_take_10 (by decide) ?_
    refine lv_aload_n hC.x hC.b dX9_take_19 rfl (lv_at hl 0 rfl) ?_
    refine lv_aload_n hC.x hC.b dX9_take_20 rfl (lv_at hl 1 rfl) ?_
    refine rget hC hK hR (ct_bench G _ _) rfl uin_X9 8 (by decide) TF_X9_65 rfl dX9_take_21 ?_
    refine gov (runV (As := [.int (σ 0 8)]) (rest := []) hC hK hR hl.1 (c_X0_beginAnew l hG σ τ q hq_14 (σ 0 8) ) (call_b hC.ts TC_X0_beginAnew TN_X0 TM_X9_173 hd_X0_beginAnew ⟨Nat.le_of_ble_eq_true rfl, Nat.le_of_ble_eq_true rfl⟩) TI_X0_beginAnew TS_X0_beginAnew (ct_clock hq_14 G _ _) rfl rfl rfl (Nat.le_of_ble_eq_true rfl) dX9_take_24 ⟨Nat.le_of_ble_eq_true rfl, Nat.le_of_ble_eq_true rfl⟩) hS (fun s_17 t_18 H locs w_16 hR hS => ?_)
    try dsimp only [po_X0_beginAnew] at w_16
    obtain ⟨es_19, et_20⟩ := w_16
    rw [et_20] at hR
    refine lv_aload_n hC.x hC.b dX9_take_27 rfl (lv_at hl 0 rfl) ?_
    refine lv_iconst (v := 1) hC.x hC.b dX9_take_28 (by decide) ?_
    refine rputi hC hK hG hR hS (ct_clock hq_14 G _ _) rfl uin_X0 tyX0 tyX0_ok nmX0 5 (by decide) TF_X9_178 rfl (Or.inr ⟨rfl, (Or.inr rfl)⟩) (Nat.le_of_ble_eq_true rfl) rfl (ct_clock hq_14 G _ _) dX9_take_29 (fun s_22 es_21 H locs hR hS => ?_)
    refine lv_iconst (v := 1) hC.x hC.b dX9_take_32 (by decide) ?_
    exact reti hC hK hR hS (by first | exact Or.inr (Or.inr ((⟨by subst es_21; subst es_19; (first | rfl | omega), by subst es_21; subst es_19; (first | rfl | assumption), by subst es_21; subst es_19; (rfl), by subst es_21; subst es_19; (first | omega | assumption), by subst es_21; subst es_19; (first | omega | assumption)⟩))) | exact False.elim (by omega)) dX9_take_33

abbrev po_X9_leave (σ : SI) (τ : SL) (pl : Int32) (q : Nat) : Int32 → SI × SL → Prop := fun v u => ((v = (-1)) ∧ (u.1 = σ) ∧ (u.2 = τ) ∧ ((¬ (0 ≤ pl.toInt ∧ pl.toInt < 24)) ∨ (σ 2 q).toInt = -1)) ∨ ((v = (-2)) ∧ (u.1 = σ) ∧ (u.2 = τ) ∧ (0 ≤ pl.toInt ∧ pl.toInt < 24) ∧ ((σ 2 q).toInt ≠ -1) ∧ (¬ (0 ≤ (σ 2 q).toInt ∧ (σ 2 q).toInt ≤ 3))) ∨ ((v = (1)) ∧ (u.1 = up2 σ (80 + q) 5 0) ∧ (u.2 = τ) ∧ (0 ≤ pl.toInt ∧ pl.toInt < 24) ∧ (0 ≤ (σ 2 q).toInt ∧ (σ 2 q).toInt ≤ 3) ∧ ((σ (80 + q) 5).toInt ≠ 0)) ∨ ((v = (0)) ∧ (u.1 = up2 σ (80 + q) 5 0) ∧ (u.2 = τ) ∧ (0 ≤ pl.toInt ∧ pl.toInt < 24) ∧ (0 ≤ (σ 2 q).toInt ∧ (σ 2 q).toInt ≤ 3) ∧ ((σ (80 + q) 5).toInt = 0))
set_option maxRecDepth 100000 in
set_option maxHeartbeats 4000000 in
theorem c_X9_leave (l : Launch) {G : Gx} {A : Nat → Prop} (hG : GOk G A) (σ : SI) (τ : SL) (pl : Int32) (q : Nat) (hp_q : pl.toInt.toNat = q) : MI l G A 2 yX9_leave cX9_leave 4 (some .int) [.ref (G.2.1 0), .int pl] (σ, τ) (po_X9_leave σ τ pl q) := by
  refine met_of (own := RX9) (by decide +kernel) rfl [(0, .ref (G.2.1 0)), (1, .int pl)] rfl (Nat.le_of_ble_eq_true rfl) ?_
  intro p e s m args below meth c ls hC hK hR hl
  have hS : va_S A s.heap s.heap [] := va_S.rf
  refine lv_aload_n hC.x hC.b dX9_leave_0 rfl (lv_at hl 0 rfl) ?_
  refine rget hC hK hR (ct_bench G _ _) rfl uin_X9 0 (by decide) TF_X9_10 rfl dX9_leave_1 ?_
  refine lv_iload_n hC.x hC.b dX9_leave_4 rfl (lv_at hl 1 rfl) ?_
  refine goqp (runV (As := [.int pl]) (rest := []) hC hK hR hl.1 (c_X5_clockAt l hG σ τ pl q (by first | rfl | (rw [show pl.toInt = pl.toInt from rfl]; done) | (rw [show pl.toInt = pl.toInt from rfl]; exact hp_q)) ) (call_b hC.ts TC_X5_clockAt TN_X5 TM_X9_169 hd_X5_clockAt ⟨Nat.le_of_ble_eq_true rfl, Nat.le_of_ble_eq_true rfl⟩) TI_X5_clockAt TS_X5_clockAt (ct_shelf G _ _) rfl rfl rfl (Nat.le_of_ble_eq_true rfl) dX9_leave_5 ⟨Nat.le_of_ble_eq_true rfl, Nat.le_of_ble_eq_true rfl⟩) hS (fun v_1 H locs w_2 hR hS => ?_)
  rcases w_2 with ⟨rfl, f_3⟩ | ⟨rfl, f_4, f_5, f_6, f_7⟩
  · skip
    refine lv_astore_nN (lv' := [(2, .null), (0, .ref (G.2.1 0)), (1, .int pl)]) hC.x hC.b dX9_leave_8 rfl hl (by decide) rfl (fun ls hl => ?_)
    refine lv_aload_nN hC.x hC.b dX9_leave_9 rfl (lv_at hl 0 rfl) ?_
    refine lv_ifnonnullN hC.x hC.b dX9_leave_10 ?_
    refine lv_aload_n hC.x hC.b dX9_leave_13 rfl (lv_at hl 1 rfl) ?_
    refine lv_iload_n hC.x hC.b dX9_leave_14 rfl (lv_at hl 2 rfl) ?_
    refine goip (runV (As := [.int pl]) (rest := []) hC hK hR hl.1 (c_X9_refusalAt l hG σ τ pl q (by first | rfl | (rw [show pl.toInt = pl.toInt from rfl]; done) | (rw [show pl.toInt = pl.toInt from rfl]; exact hp_q)) ) (call_b hC.ts TC_X9_refusalAt TN_X9 TM_X9_116 hd_X9_refusalAt ⟨Nat.le_of_ble_eq_true rfl, Nat.le_of_ble_eq_true rfl⟩) TI_X9_refusalAt TS_X9_refusalAt (ct_bench G _ _) rfl rfl rfl (Nat.le_of_ble_eq_true rfl) dX9_leave_15 ⟨Nat.le_of_ble_eq_true rfl, Nat.le_of_ble_eq_true rfl⟩) hS (fun v_8 H locs w_9 hR hS => ?_)
    rcases w_9 with ⟨rfl, f_10⟩ | ⟨rfl, f_11, f_12, f_13⟩
    · skip
      exact reti hC hK hR hS (by first | exact Or.inl (⟨by first | rfl | omega, by first | rfl | assumption, by rfl, by first | omega | assumption⟩) | exact False.elim (by omega)) dX9_leave_18
    · skip
      exact reti hC hK hR hS (by first | exact Or.inr (Or.inl (⟨by first | rfl | omega, by first | rfl | assumption, by rfl, by first | omega | assumption, by first | omega | assumption, by first | omega | assumption⟩)) | exact False.elim (by omega)) dX9_leave_18
  · skip
    have hq_14 : q < 24 := by omega
    refine lv_astore_n (lv' := [(2, .ref (G.2.1 (80 + q))), (0, .ref (G.2.1 0)), (1, .int pl)]) hC.x hC.b dX9_leave_8 rfl hl (by decide) rfl (fun ls hl => ?_)
    refine lv_aload_n hC.x hC.b dX9_leave_9 rfl (lv_at hl 0 rfl) ?_
    refine lv_ifnonnull (tgt := 19) hC.x hC.b dX9_leave_10 (by decide) ?_
    refine lv_aload_n hC.x hC.b dX9_leave_19 rfl (lv_at hl 0 rfl) ?_
    refine rget hC hK hR (ct_clock hq_14 G _ _) rfl uin_X0 5 (by decide) TF_X9_178 rfl dX9_leave_20 ?_
    refine lv_istore_n (lv' := [(3, .int (σ (80 + q) 5)), (2, .ref (G.2.1 (80 + q))), (0, .ref (G.2.1 0)), (1, .int pl)]) hC.x hC.b dX9_leave_23 rfl hl (by decide) rfl (fun ls hl => ?_)
    refine lv_aload_n hC.x hC.b dX9_leave_24 rfl (lv_at hl 1 rfl) ?_
    refine lv_iconst (v := 0) hC.x hC.b dX9_leave_25 (by decide) ?_
    refine rputi hC hK hG hR hS (ct_clock hq_14 G _ _) rfl uin_X0 tyX0 tyX0_ok nmX0 5 (by decide) TF_X9_178 rfl (Or.inr ⟨rfl, (Or.inl rfl)⟩) (Nat.le_of_ble_eq_true rfl) rfl (ct_clock hq_14 G _ _) dX9_leave_26 (fun s_16 es_15 H locs hR hS => ?_)
    refine lv_iload_n hC.x hC.b dX9_leave_29 rfl (lv_at hl 0 rfl) ?_
    refine bz_eq (tgt := 37) (a := (σ (80 + q) 5).toInt) (b := 0) hC.x hC.b rfl rfl dX9_leave_30 (by decide) (fun c_17 => ?_) (fun c_17 => ?_)
    · skip
      refine lv_iconst (v := 0) hC.x hC.b dX9_leave_37 (by decide) ?_
      exact reti hC hK hR hS (by first | exact Or.inr (Or.inr (Or.inr ((⟨by subst es_15; (first | rfl | omega), by subst es_15; (first | rfl | assumption), by subst es_15; (rfl), by subst es_15; (first | omega | assumption), by subst es_15; (first | omega | assumption), by subst es_15; (first | omega | assumption)⟩)))) | exact False.elim (by omega)) dX9_leave_38
    · skip
      refine lv_iconst (v := 1) hC.x hC.b dX9_leave_33 (by decide) ?_
      refine lv_goto (tgt := 38) hC.x hC.b dX9_leave_34 (by decide) ?_
      exact reti hC hK hR hS (by first | exact Or.inr (Or.inr (Or.inl (⟨by subst es_15; (first | rfl | omega), by subst es_15; (first | rfl | assumption), by subst es_15; (rfl), by subst es_15; (first | omega | assumption), by subst es_15; (first | omega | assumption), by subst es_15; (first | omega | assumption)⟩))) | exact False.elim (by omega)) dX9_leave_38

abbrev po_X9_call (σ : SI) (τ : SL) (pl : Int32) (q : Nat) (oa : Int32) : Int32 → SI × SL → Prop := fun v u => ((v = (-1)) ∧ (u.1 = σ) ∧ (u.2 = τ) ∧ ((¬ (0 ≤ pl.toInt ∧ pl.toInt < 24)) ∨ (σ 2 q).toInt = -1)) ∨ ((v = (-2)) ∧ (u.1 = σ) ∧ (u.2 = τ) ∧ (0 ≤ pl.toInt ∧ pl.toInt < 24) ∧ ((σ 2 q).toInt ≠ -1) ∧ (¬ (0 ≤ (σ 2 q).toInt ∧ (σ 2 q).toInt ≤ 3 ∧ (σ (80 + q) 1).toInt = 3))) ∨ ((v = (1)) ∧ (u.1 = up2 σ (80 + q) 6 oa) ∧ (u.2 = τ) ∧ (0 ≤ pl.toInt ∧ pl.toInt < 24) ∧ (0 ≤ (σ 2 q).toInt ∧ (σ 2 q).toInt ≤ 3) ∧ ((σ (80 + q) 1).toInt = 3))
set_option maxRecDepth 100000 in
set_option maxHeartbeats 4000000 in
theorem c_X9_call (l : Launch) {G : Gx} {A : Nat → Prop} (hG : GOk G A) (σ : SI) (τ : SL) (pl : Int32) (q : Nat) (hp_q : pl.toInt.toNat = q) (oa : Int32) (hoa : oa = 0 ∨ oa = 1) : MI l G A 2 yX9_call cX9_call 4 (some .int) [.ref (G.2.1 0), .int pl, .int oa] (σ, τ) (po_X9_call σ τ pl q oa) := by
  refine met_of (own := RX9) (by decide +kernel) rfl [(0, .ref (G.2.1 0)), (1, .int pl), (2, .int oa)] rfl (Nat.le_of_ble_eq_true rfl) ?_
  intro p e s m args below meth c ls hC hK hR hl
  have hS : va_S A s.heap s.heap [] := va_S.rf
  refine lv_aload_n hC.x hC.b dX9_call_0 rfl (lv_at hl 0 rfl) ?_
  refine rget hC hK hR (ct_bench G _ _) rfl uin_X9 0 (by decide) TF_X9_10 rfl dX9_call_1 ?_
  refine lv_iload_n hC.x hC.b dX9_call_4 rfl (lv_at hl 1 rfl) ?_
  refine goqp (runV (As := [.int pl]) (rest := []) hC hK hR hl.1 (c_X5_clockAt l hG σ τ pl q (by first | rfl | (rw [show pl.toInt = pl.toInt from rfl]; done) | (rw [show pl.toInt = pl.toInt from rfl]; exact hp_q)) ) (call_b hC.ts TC_X5_clockAt TN_X5 TM_X9_169 hd_X5_clockAt ⟨Nat.le_of_ble_eq_true rfl, Nat.le_of_ble_eq_true rfl⟩) TI_X5_clockAt TS_X5_clockAt (ct_shelf G _ _) rfl rfl rfl (Nat.le_of_ble_eq_true rfl) dX9_call_5 ⟨Nat.le_of_ble_eq_true rfl, Nat.le_of_ble_eq_true rfl⟩) hS (fun v_1 H locs w_2 hR hS => ?_)
  rcases w_2 with ⟨rfl, f_3⟩ | ⟨rfl, f_4, f_5, f_6, f_7⟩
  · skip
    refine lv_astore_nN (lv' := [(3, .null), (0, .ref (G.2.1 0)), (1, .int pl), (2, .int oa)]) hC.x hC.b dX9_call_8 rfl hl (by decide) rfl (fun ls hl => ?_)
    refine lv_aload_nN hC.x hC.b dX9_call_9 rfl (lv_at hl 0 rfl) ?_
    refine lv_ifnullN (tgt := 21) hC.x hC.b dX9_call_10 (by decide) ?_
    refine lv_aload_n hC.x hC.b dX9_call_21 rfl (lv_at hl 1 rfl) ?_
    refine lv_iload_n hC.x hC.b dX9_call_22 rfl (lv_at hl 2 rfl) ?_
    refine goip (runV (As := [.int pl]) (rest := []) hC hK hR hl.1 (c_X9_refusalAt l hG σ τ pl q (by first | rfl | (rw [show pl.toInt = pl.toInt from rfl]; done) | (rw [show pl.toInt = pl.toInt from rfl]; exact hp_q)) ) (call_b hC.ts TC_X9_refusalAt TN_X9 TM_X9_116 hd_X9_refusalAt ⟨Nat.le_of_ble_eq_true rfl, Nat.le_of_ble_eq_true rfl⟩) TI_X9_refusalAt TS_X9_refusalAt (ct_bench G _ _) rfl rfl rfl (Nat.le_of_ble_eq_true rfl) dX9_call_23 ⟨Nat.le_of_ble_eq_true rfl, Nat.le_of_ble_eq_true rfl⟩) hS (fun v_8 H locs w_9 hR hS => ?_)
    rcases w_9 with ⟨rfl, f_10⟩ | ⟨rfl, f_11, f_12, f_13⟩
    · skip
      exact reti hC hK hR hS (by first | exact Or.inl (⟨by first | rfl | omega, by first | rfl | assumption, by rfl, by first | omega | assumption⟩) | exact False.elim (by omega)) dX9_call_26
    · skip
      exact reti hC hK hR hS (by first | exact Or.inr (Or.inl (⟨by first | rfl | omega, by first | rfl | assumption, by rfl, by first | omega | assumption, by first | omega | assumption, by first | omega | assumption⟩)) | exact False.elim (by omega)) dX9_call_26
  · skip
    have hq_14 : q < 24 := by omega
    refine lv_astore_n (lv' := [(3, .ref (G.2.1 (80 + q))), (0, .ref (G.2.1 0)), (1, .int pl), (2, .int oa)]) hC.x hC.b dX9_call_8 rfl hl (by decide) rfl (fun ls hl => ?_)
    refine lv_aload_n hC.x hC.b dX9_call_9 rfl (lv_at hl 0 rfl) ?_
    refine lv_ifnull hC.x hC.b dX9_call_10 ?_
    refine lv_aload_n hC.x hC.b dX9_call_13 rfl (lv_at hl 0 rfl) ?_
    refine rget hC hK hR (ct_clock hq_14 G _ _) rfl uin_X0 1 (by decide) TF_X9_182 rfl dX9_call_14 ?_
    refine lv_iconst (v := 3) hC.x hC.b dX9_call_17 (by decide) ?_
    refine bi_eq (tgt := 27) (a := (σ (80 + q) 1).toInt) (b := 3) hC.x hC.b rfl rfl dX9_call_18 (by decide) (fun c_15 => ?_) (fun c_15 => ?_)
    · skip
      refine lv_aload_n hC.x hC.b dX9_call_27 rfl (lv_at hl 0 rfl) ?_
      refine lv_iload_n hC.x hC.b dX9_call_28 rfl (lv_at hl 3 rfl) ?_
      refine rputi hC hK hG hR hS (ct_clock hq_14 G _ _) rfl uin_X0 tyX0 tyX0_ok nmX0 6 (by decide) TF_X9_183 rfl (Or.inr ⟨rfl, (by first | assumption | exact Or.inl rfl | exact Or.inr rfl)⟩) (Nat.le_of_ble_eq_true rfl) rfl (ct_clock hq_14 G _ _) dX9_call_29 (fun s_17 es_16 H locs hR hS => ?_)
      refine lv_iconst (v := 1) hC.x hC.b dX9_call_32 (by decide) ?_
      exact reti hC hK hR hS (by first | exact Or.inr (Or.inr ((⟨by subst es_16; (first | rfl | omega), by subst es_16; (first | rfl | assumption), by subst es_16; (rfl), by subst es_16; (first | omega | assumption), by subst es_16; (first | omega | assumption), by subst es_16; (first | omega | assumption)⟩))) | exact False.elim (by omega)) dX9_call_33
    · skip
      refine lv_aload_n hC.x hC.b dX9_call_21 rfl (lv_at hl 1 rfl) ?_
      refine lv_iload_n hC.x hC.b dX9_call_22 rfl (lv_at hl 2 rfl) ?_
      refine goip (runV (As := [.int pl]) (rest := []) hC hK hR hl.1 (c_X9_refusalAt l hG σ τ pl q (by first | rfl | (rw [show pl.toInt = pl.toInt from rfl]; done) | (rw [show pl.toInt = pl.toInt from rfl]; exact hp_q)) ) (call_b hC.ts TC_X9_refusalAt TN_X9 TM_X9_116 hd_X9_refusalAt ⟨Nat.le_of_ble_eq_true rfl, Nat.le_of_ble_eq_true rfl⟩) TI_X9_refusalAt TS_X9_refusalAt (ct_bench G _ _) rfl rfl rfl (Nat.le_of_ble_eq_true rfl) dX9_call_23 ⟨Nat.le_of_ble_eq_true rfl, Nat.le_of_ble_eq_true rfl⟩) hS (fun v_18 H locs w_19 hR hS => ?_)
      rcases w_19 with ⟨rfl, f_20⟩ | ⟨rfl, f_21, f_22, f_23⟩
      · skip
        exact reti hC hK hR hS (by first | exact Or.inl (⟨by first | rfl | omega, by first | rfl | assumption, by rfl, by first | omega | assumption⟩) | exact False.elim (by omega)) dX9_call_26
      · skip
        exact reti hC hK hR hS (by first | exact Or.inr (Or.inl (⟨by first | rfl | omega, by first | rfl | assumption, by rfl, by first | omega | assumption, by first | omega | assumption, by first | omega | assumption⟩)) | exact False.elim (by omega)) dX9_call_26

abbrev po_X9_steer (σ : SI) (τ : SL) (pl : Int32) (q : Nat) (xa : Int32) : Int32 → SI × SL → Prop := fun v u => ((v = (-1)) ∧ (u.1 = σ) ∧ (u.2 = τ) ∧ ((¬ (0 ≤ pl.toInt ∧ pl.toInt < 24)) ∨ (σ 2 q).toInt = -1)) ∨ ((v = (-2)) ∧ (u.1 = σ) ∧ (u.2 = τ) ∧ (0 ≤ pl.toInt ∧ pl.toInt < 24) ∧ ((σ 2 q).toInt ≠ -1) ∧ (¬ (0 ≤ (σ 2 q).toInt ∧ (σ 2 q).toInt ≤ 3 ∧ ((σ (80 + q) 1).toInt = 1 ∨ (σ (80 + q) 1).toInt = 3)))) ∨ ((v = (1000000)) ∧ (u.1 = σ) ∧ (u.2 = τ) ∧ (0 ≤ pl.toInt ∧ pl.toInt < 24) ∧ (0 ≤ (σ 2 q).toInt ∧ (σ 2 q).toInt ≤ 3) ∧ ((σ (80 + q) 1).toInt = 1 ∨ (σ (80 + q) 1).toInt = 3) ∧ (¬ (-10000 ≤ xa.toInt ∧ xa.toInt ≤ 10000 ∧ -100000 ≤ (σ (80 + q) 4).toInt + xa.toInt ∧ (σ (80 + q) 4).toInt + xa.toInt ≤ 100000))) ∨ ((v = ((σ (80 + q) 4) + xa)) ∧ (u.1 = up2 σ (80 + q) 4 ((σ (80 + q) 4) + xa)) ∧ (u.2 = τ) ∧ (0 ≤ pl.toInt ∧ pl.toInt < 24) ∧ (0 ≤ (σ 2 q).toInt ∧ (σ 2 q).toInt ≤ 3) ∧ ((σ (80 + q) 1).toInt = 1 ∨ (σ (80 + q) 1).toInt = 3) ∧ (-10000 ≤ xa.toInt ∧ xa.toInt ≤ 10000) ∧ (-100000 ≤ (σ (80 + q) 4).toInt + xa.toInt ∧ (σ (80 + q) 4).toInt + xa.toInt ≤ 100000))
set_option maxRecDepth 100000 in
set_option maxHeartbeats 4000000 in
theorem c_X9_steer (l : Launch) {G : Gx} {A : Nat → Prop} (hG : GOk G A) (σ : SI) (τ : SL) (pl : Int32) (q : Nat) (hp_q : pl.toInt.toNat = q) (xa : Int32) (hst : ∀ j, j < 24 → -100000 ≤ (σ (80 + j) 4).toInt ∧ (σ (80 + j) 4).toInt ≤ 100000) : MI l G A 2 yX9_steer cX9_steer 4 (some .int) [.ref (G.2.1 0), .int pl, .int xa] (σ, τ) (po_X9_steer σ τ pl q xa) := by
  refine met_of (own := RX9) (by decide +kernel) rfl [(0, .ref (G.2.1 0)), (1, .int pl), (2, .int xa)] rfl (Nat.le_of_ble_eq_true rfl) ?_
  intro p e s m args below meth c ls hC hK hR hl
  have hS : va_S A s.heap s.heap [] := va_S.rf
  refine lv_aload_n hC.x hC.b dX9_steer_0 rfl (lv_at hl 0 rfl) ?_
  refine rget hC hK hR (ct_bench G _ _) rfl uin_X9 0 (by decide) TF_X9_10 rfl dX9_steer_1 ?_
  refine lv_iload_n hC.x hC.b dX9_steer_4 rfl (lv_at hl 1 rfl) ?_
  refine goqp (runV (As := [.int pl]) (rest := []) hC hK hR hl.1 (c_X5_clockAt l hG σ τ pl q (by first | rfl | (rw [show pl.toInt = pl.toInt from rfl]; done) | (rw [show pl.toInt = pl.toInt from rfl]; exact hp_q)) ) (call_b hC.ts TC_X5_clockAt TN_X5 TM_X9_169 hd_X5_clockAt ⟨Nat.le_of_ble_eq_true rfl, Nat.le_of_ble_eq_true rfl⟩) TI_X5_clockAt TS_X5_clockAt (ct_shelf G _ _) rfl rfl rfl (Nat.le_of_ble_eq_true rfl) dX9_steer_5 ⟨Nat.le_of_ble_eq_true rfl, Nat.le_of_ble_eq_true rfl⟩) hS (fun v_1 H locs w_2 hR hS => ?_)
  rcases w_2 with ⟨rfl, f_3⟩ | ⟨rfl, f_4, f_5, f_6, f_7⟩
  · skip
    refine lv_astore_nN (lv' := [(3, .null), (0, .ref (G.2.1 0)), (1, .int pl), (2, .int xa)]) hC.x hC.b dX9_steer_8 rfl hl (by decide) rfl (fun ls hl => ?_)
    refine lv_aload_nN hC.x hC.b dX9_steer_9 rfl (lv_at hl 0 rfl) ?_
    refine lv_ifnullN (tgt := 20) hC.x hC.b dX9_steer_10 (by decide) ?_
    refine lv_aload_n hC.x hC.b dX9_steer_20 rfl (lv_at hl 1 rfl) ?_
    refine lv_iload_n hC.x hC.b dX9_steer_21 rfl (lv_at hl 2 rfl) ?_
    refine goip (runV (As := [.int pl]) (rest := []) hC hK hR hl.1 (c_X9_refusalAt l hG σ τ pl q (by first | rfl | (rw [show pl.toInt = pl.toInt from rfl]; done) | (rw [show pl.toInt = pl.toInt from rfl]; exact hp_q)) ) (call_b hC.ts TC_X9_refusalAt TN_X9 TM_X9_116 hd_X9_refusalAt ⟨Nat.le_of_ble_eq_true rfl, Nat.le_of_ble_eq_true rfl⟩) TI_X9_refusalAt TS_X9_refusalAt (ct_bench G _ _) rfl rfl rfl (Nat.le_of_ble_eq_true rfl) dX9_steer_22 ⟨Nat.le_of_ble_eq_true rfl, Nat.le_of_ble_eq_true rfl⟩) hS (fun v_8 H locs w_9 hR hS => ?_)
    rcases w_9 with ⟨rfl, f_10⟩ | ⟨rfl, f_11, f_12, f_13⟩
    · skip
      exact reti hC hK hR hS (by first | exact Or.inl (⟨by first | rfl | exact up2_s, by first | rfl | assumption, by rfl, by first | omega | assumption⟩) | exact Or.inr (Or.inr (Or.inr ((⟨by first | rfl | exact up2_s, by first | rfl | assumption, by rfl, by first | omega | assumption, by first | omega | assumption, by first | omega | assumption, by first | omega | assumption, by first | omega | assumption⟩)))) | exact False.elim (by omega)) dX9_steer_25
    · skip
      exact reti hC hK hR hS (by first | exact Or.inr (Or.inl (⟨by first | rfl | exact up2_s, by first | rfl | assumption, by rfl, by first | omega | assumption, by first | omega | assumption, by first | omega | assumption⟩)) | exact Or.inr (Or.inr (Or.inr ((⟨by first | rfl | exact up2_s, by first | rfl | assumption, by rfl, by first | omega | assumption, by first | omega | assumption, by first | omega | assumption, by first | omega | assumption, by first | omega | assumption⟩)))) | exact False.elim (by omega)) dX9_steer_25
  · skip
    have hq_14 : q < 24 := by omega
    refine lv_astore_n (lv' := [(3, .ref (G.2.1 (80 + q))), (0, .ref (G.2.1 0)), (1, .int pl), (2, .int xa)]) hC.x hC.b dX9_steer_8 rfl hl (by decide) rfl (fun ls hl => ?_)
    refine lv_aload_n hC.x hC.b dX9_steer_9 rfl (lv_at hl 0 rfl) ?_
    refine lv_ifnull hC.x hC.b dX9_steer_10 ?_
    refine lv_aload_n hC.x hC.b dX9_steer_13 rfl (lv_at hl 0 rfl) ?_
    refine goip (runV (As := []) (rest := []) hC hK hR hl.1 (c_X0_isSteered l hG σ τ q hq_14 ) (call_b hC.ts TC_X0_isSteered TN_X0 TM_X9_186 hd_X0_isSteered ⟨Nat.le_of_ble_eq_true rfl, Nat.le_of_ble_eq_true rfl⟩) TI_X0_isSteered TS_X0_isSteered (ct_clock hq_14 G _ _) rfl rfl rfl (Nat.le_of_ble_eq_true rfl) dX9_steer_14 ⟨Nat.le_of_ble_eq_true rfl, Nat.le_of_ble_eq_true rfl⟩) hS (fun v_15 H locs w_16 hR hS => ?_)
    rcases w_16 with ⟨rfl, f_17⟩ | ⟨rfl, f_18⟩
    · skip
      refine bz_ne (tgt := 26) (a := 1) (b := 0) hC.x hC.b rfl rfl dX9_steer_17 (by decide) (fun _ => ?_) (fun c_19 => absurd c_19 (by decide))
      refine lv_iload_n hC.x hC.b dX9_steer_26 rfl (lv_at hl 3 rfl) ?_
      refine lv_sipush (v := 10000) hC.x hC.b dX9_steer_27 (by decide) ?_
      have av_20 : (10000 : Int32).toInt = 10000 := by decide
      refine goip (runS (As := [.int xa, .int (10000 : Int32)]) (rest := []) hC hK hR hl.1 (c_X9_isWithin l hG σ τ xa (10000 : Int32) (by first | decide | omega)) (call_b hC.ts TC_X9_isWithin TN_X9 TM_X9_119 hd_X9_isWithin ⟨Nat.le_of_ble_eq_true rfl, Nat.le_of_ble_eq_true rfl⟩) TT_X9_isWithin rfl rfl (Nat.le_of_ble_eq_true rfl) dX9_steer_30 ⟨Nat.le_of_ble_eq_true rfl, Nat.le_of_ble_eq_true rfl⟩) hS (fun v_21 H locs w_22 hR hS => ?_)
      rcases w_22 with ⟨rfl, f_23, f_24⟩ | ⟨rfl, f_25⟩
      · skip
        refine bz_eq (tgt := 50) (a := 1) (b := 0) hC.x hC.b rfl rfl dX9_steer_33 (by decide) (fun c_26 => absurd c_26 (by decide)) (fun _ => ?_)
        have hsq := hst q (by omega)
        refine lv_aload_n hC.x hC.b dX9_steer_36 rfl (lv_at hl 0 rfl) ?_
        refine rget hC hK hR (ct_clock hq_14 G _ _) rfl uin_X0 4 (by decide) TF_X9_190 rfl dX9_steer_37 ?_
        refine lv_iload_n hC.x hC.b dX9_steer_40 rfl (lv_at hl 3 rfl) ?_
        refine lv_iadd hC.x hC.b dX9_steer_41 ?_
        have pr_27 : ((σ (80 + q) 4) + xa).toInt = ((σ (80 + q) 4).toInt + xa.toInt) := addI rfl rfl (by omega) (by omega)
        refine lv_ldc hC.x hC.b hC.ow (hC.ts _ TK_X9_193) dX9_steer_42 ?_
        have av_28 : ((σ (80 + q) 4) + xa).toInt = ((σ (80 + q) 4).toInt + xa.toInt) := pr_27
        have av_29 : (100000 : Int32).toInt = 100000 := by decide
        refine goip (runS (As := [.int ((σ (80 + q) 4) + xa), .int (100000 : Int32)]) (rest := []) hC hK hR hl.1 (c_X9_isWithin l hG σ τ ((σ (80 + q) 4) + xa) (100000 : Int32) (by first | decide | omega)) (call_b hC.ts TC_X9_isWithin TN_X9 TM_X9_119 hd_X9_isWithin ⟨Nat.le_of_ble_eq_true rfl, Nat.le_of_ble_eq_true rfl⟩) TT_X9_isWithin rfl rfl (Nat.le_of_ble_eq_true rfl) dX9_steer_44 ⟨Nat.le_of_ble_eq_true rfl, Nat.le_of_ble_eq_true rfl⟩) hS (fun v_30 H locs w_31 hR hS => ?_)
        rcases w_31 with ⟨rfl, f_32, f_33⟩ | ⟨rfl, f_34⟩
        · skip
          refine bz_ne (tgt := 53) (a := 1) (b := 0) hC.x hC.b rfl rfl dX9_steer_47 (by decide) (fun _ => ?_) (fun c_35 => absurd c_35 (by decide))
          refine lv_aload_n hC.x hC.b dX9_steer_53 rfl (lv_at hl 0 rfl) ?_
          refine lv_dup hC.x hC.b dX9_steer_54 rfl ?_
          refine rget hC hK hR (ct_clock hq_14 G _ _) rfl uin_X0 4 (by decide) TF_X9_190 rfl dX9_steer_55 ?_
          refine lv_iload_n hC.x hC.b dX9_steer_58 rfl (lv_at hl 3 rfl) ?_
          refine lv_iadd hC.x hC.b dX9_steer_59 ?_
          refine rputi hC hK hG hR hS (ct_clock hq_14 G _ _) rfl uin_X0 tyX0 tyX0_ok nmX0 4 (by decide) TF_X9_190 rfl (Or.inl rfl) (Nat.le_of_ble_eq_true rfl) rfl (ct_clock hq_14 G _ _) dX9_steer_60 (fun s_37 es_36 H locs hR hS => ?_)
          refine lv_aload_n hC.x hC.b dX9_steer_63 rfl (lv_at hl 0 rfl) ?_
          refine rget hC hK hR (ct_clock hq_14 G _ _) rfl uin_X0 4 (by decide) TF_X9_190 rfl dX9_steer_64 ?_
          have rd_38 : (s_37 (80 + q) 4).toInt = ((σ (80 + q) 4) + xa).toInt := congrArg Int32.toInt (show s_37 (80 + q) 4 = ((σ (80 + q) 4) + xa) from (by rw [es_36]; exact up2_s))
          exact reti hC hK hR hS (by first | exact Or.inl (⟨by subst es_36; (first | rfl | exact up2_s), by subst es_36; (first | rfl | assumption), by subst es_36; (rfl), by subst es_36; (first | omega | assumption)⟩) | exact Or.inr (Or.inl (⟨by subst es_36; (first | rfl | exact up2_s), by subst es_36; (first | rfl | assumption), by subst es_36; (rfl), by subst es_36; (first | omega | assumption), by subst es_36; (first | omega | assumption), by subst es_36; (first | omega | assumption)⟩)) | exact Or.inr (Or.inr (Or.inl (⟨by subst es_36; (first | rfl | exact up2_s), by subst es_36; (first | rfl | assumption), by subst es_36; (rfl), by subst es_36; (first | omega | assumption), by subst es_36; (first | omega | assumption), by subst es_36; (first | omega | assumption), by subst es_36; (first | omega | assumption)⟩))) | exact Or.inr (Or.inr (Or.inr ((⟨by subst es_36; (first | rfl | exact up2_s), by subst es_36; (first | rfl | assumption), by subst es_36; (rfl), by subst es_36; (first | omega | assumption), by subst es_36; (first | omega | assumption), by subst es_36; (first | omega | assumption), by subst es_36; (first | omega | assumption), by subst es_36; (first | omega | assumption)⟩)))) | exact False.elim (by omega)) dX9_steer_67
        · skip
          refine bz_ne (tgt := 53) (a := 0) (b := 0) hC.x hC.b rfl rfl dX9_steer_47 (by decide) (fun c_39 => absurd c_39 (by decide)) (fun _ => ?_)
          refine lv_ldc hC.x hC.b hC.ow (hC.ts _ TK_X9_148) dX9_steer_50 ?_
          exact reti hC hK hR hS (by first | exact Or.inr (Or.inr (Or.inl (⟨by first | rfl | exact up2_s, by first | rfl | assumption, by rfl, by first | omega | assumption, by first | omega | assumption, by first | omega | assumption, by first | omega | assumption⟩))) | exact Or.inr (Or.inr (Or.inr ((⟨by first | rfl | exact up2_s, by first | rfl | assumption, by rfl, by first | omega | assumption, by first | omega | assumption, by first | omega | assumption, by first | omega | assumption, by first | omega | assumption⟩)))) | exact False.elim (by omega)) dX9_steer_52
      · skip
        refine bz_eq (tgt := 50) (a := 0) (b := 0) hC.x hC.b rfl rfl dX9_steer_33 (by decide) (fun _ => ?_) (fun c_40 => absurd c_40 (by decide))
        refine lv_ldc hC.x hC.b hC.ow (hC.ts _ TK_X9_148) dX9_steer_50 ?_
        exact reti hC hK hR hS (by first | exact Or.inr (Or.inr (Or.inl (⟨by first | rfl | exact up2_s, by first | rfl | assumption, by rfl, by first | omega | assumption, by first | omega | assumption, by first | omega | assumption, by first | omega | assumption⟩))) | exact Or.inr (Or.inr (Or.inr ((⟨by first | rfl | exact up2_s, by first | rfl | assumption, by rfl, by first | omega | assumption, by first | omega | assumption, by first | omega | assumption, by first | omega | assumption, by first | omega | assumption⟩)))) | exact False.elim (by omega)) dX9_steer_52
    · skip
      refine bz_ne (tgt := 26) (a := 0) (b := 0) hC.x hC.b rfl rfl dX9_steer_17 (by decide) (fun c_41 => absurd c_41 (by decide)) (fun _ => ?_)
      refine lv_aload_n hC.x hC.b dX9_steer_20 rfl (lv_at hl 1 rfl) ?_
      refine lv_iload_n hC.x hC.b dX9_steer_21 rfl (lv_at hl 2 rfl) ?_
      refine goip (runV (As := [.int pl]) (rest := []) hC hK hR hl.1 (c_X9_refusalAt l hG σ τ pl q (by first | rfl | (rw [show pl.toInt = pl.toInt from rfl]; done) | (rw [show pl.toInt = pl.toInt from rfl]; exact hp_q)) ) (call_b hC.ts TC_X9_refusalAt TN_X9 TM_X9_116 hd_X9_refusalAt ⟨Nat.le_of_ble_eq_true rfl, Nat.le_of_ble_eq_true rfl⟩) TI_X9_refusalAt TS_X9_refusalAt (ct_bench G _ _) rfl rfl rfl (Nat.le_of_ble_eq_true rfl) dX9_steer_22 ⟨Nat.le_of_ble_eq_true rfl, Nat.le_of_ble_eq_true rfl⟩) hS (fun v_42 H locs w_43 hR hS => ?_)
      rcases w_43 with ⟨rfl, f_44⟩ | ⟨rfl, f_45, f_46, f_47⟩
      · skip
        exact reti hC hK hR hS (by first | exact Or.inl (⟨by first | rfl | exact up2_s, by first | rfl | assumption, by rfl, by first | omega | assumption⟩) | exact Or.inr (Or.inr (Or.inr ((⟨by first | rfl | exact up2_s, by first | rfl | assumption, by rfl, by first | omega | assumption, by first | omega | assumption, by first | omega | assumption, by first | omega | assumption, by first | omega | assumption⟩)))) | exact False.elim (by omega)) dX9_steer_25
      · skip
        exact reti hC hK hR hS (by first | exact Or.inr (Or.inl (⟨by first | rfl | exact up2_s, by first | rfl | assumption, by rfl, by first | omega | assumption, by first | omega | assumption, by first | omega | assumption⟩)) | exact Or.inr (Or.inr (Or.inr ((⟨by first | rfl | exact up2_s, by first | rfl | assumption, by rfl, by first | omega | assumption, by first | omega | assumption, by first | omega | assumption, by first | omega | assumption, by first | omega | assumption⟩)))) | exact False.elim (by omega)) dX9_steer_25

abbrev po_X9_set (σ : SI) (τ : SL) (wa : Int32) (xa : Int32) : Int32 → SI × SL → Prop := fun v u => ((v = (1)) ∧ (u.1 = up2 σ 0 9 xa) ∧ (u.2 = τ) ∧ (wa.toInt = 0) ∧ (1 ≤ xa.toInt ∧ xa.toInt ≤ 100)) ∨ ((v = (1)) ∧ (u.1 = up2 σ 0 10 xa) ∧ (u.2 = τ) ∧ (wa.toInt = 1) ∧ (2 ≤ xa.toInt ∧ xa.toInt ≤ 20)) ∨ ((v = (1)) ∧ (u.1 = up2 σ 0 11 xa) ∧ (u.2 = τ) ∧ (wa.toInt = 2) ∧ (0 ≤ xa.toInt ∧ xa.toInt ≤ 3599)) ∨ ((v = (0)) ∧ (u.1 = σ) ∧ (u.2 = τ) ∧ (¬ (wa.toInt = 0 ∧ 1 ≤ xa.toInt ∧ xa.toInt ≤ 100)) ∧ (¬ (wa.toInt = 1 ∧ 2 ≤ xa.toInt ∧ xa.toInt ≤ 20)) ∧ (¬ (wa.toInt = 2 ∧ 0 ≤ xa.toInt ∧ xa.toInt ≤ 3599)))
set_option maxRecDepth 100000 in
set_option maxHeartbeats 4000000 in
theorem c_X9_set (l : Launch) {G : Gx} {A : Nat → Prop} (hG : GOk G A) (σ : SI) (τ : SL) (wa : Int32) (xa : Int32) : MI l G A 0 yX9_set cX9_set 3 (some .boolean) [.ref (G.2.1 0), .int wa, .int xa] (σ, τ) (po_X9_set σ τ wa xa) := by
  refine met_of (own := RX9) (by decide +kernel) rfl [(0, .ref (G.2.1 0)), (1, .int wa), (2, .int xa)] rfl (Nat.le_of_ble_eq_true rfl) ?_
  intro p e s m args below meth c ls hC hK hR hl
  have hS : va_S A s.heap s.heap [] := va_S.rf
  refine lv_iload_n hC.x hC.b dX9_set_0 rfl (lv_at hl 1 rfl) ?_
  refine bz_ne (tgt := 23) (a := wa.toInt) (b := 0) hC.x hC.b rfl rfl dX9_set_1 (by decide) (fun c_1 => ?_) (fun c_1 => ?_)
  · skip
    refine lv_iload_n hC.x hC.b dX9_set_23 rfl (lv_at hl 1 rfl) ?_
    refine lv_iconst (v := 1) hC.x hC.b dX9_set_24 (by decide) ?_
    refine bi_ne (tgt := 47) (a := wa.toInt) (b := 1) hC.x hC.b rfl rfl dX9_set_25 (by decide) (fun c_2 => ?_) (fun c_2 => ?_)
    · skip
      refine lv_iload_n hC.x hC.b dX9_set_47 rfl (lv_at hl 1 rfl) ?_
      refine lv_iconst (v := 2) hC.x hC.b dX9_set_48 (by decide) ?_
      refine bi_ne (tgt := 71) (a := wa.toInt) (b := 2) hC.x hC.b rfl rfl dX9_set_49 (by decide) (fun c_3 => ?_) (fun c_3 => ?_)
      · skip
        refine lv_iconst (v := 0) hC.x hC.b dX9_set_71 (by decide) ?_
        exact retz hC hK hR hS (Or.inl rfl) (by first | exact Or.inr (Or.inr (Or.inr ((⟨by first | rfl | omega, by first | rfl | assumption, by rfl, by first | omega | assumption, by first | omega | assumption, by first | omega | assumption⟩)))) | exact False.elim (by omega)) dX9_set_72
      · skip
        refine lv_iload_n hC.x hC.b dX9_set_52 rfl (lv_at hl 2 rfl) ?_
        refine bz_lt (tgt := 71) (a := xa.toInt) (b := 0) hC.x hC.b rfl rfl dX9_set_53 (by decide) (fun c_4 => ?_) (fun c_4 => ?_)
        · skip
          refine lv_iconst (v := 0) hC.x hC.b dX9_set_71 (by decide) ?_
          exact retz hC hK hR hS (Or.inl rfl) (by first | exact Or.inr (Or.inr (Or.inr ((⟨by first | rfl | omega, by first | rfl | assumption, by rfl, by first | omega | assumption, by first | omega | assumption, by first | omega | assumption⟩)))) | exact False.elim (by omega)) dX9_set_72
        · skip
          refine lv_iload_n hC.x hC.b dX9_set_56 rfl (lv_at hl 2 rfl) ?_
          refine lv_sipush (v := 3599) hC.x hC.b dX9_set_57 (by decide) ?_
          refine bi_gt (tgt := 71) (a := xa.toInt) (b := 3599) hC.x hC.b rfl rfl dX9_set_60 (by decide) (fun c_5 => ?_) (fun c_5 => ?_)
          · skip
            refine lv_iconst (v := 0) hC.x hC.b dX9_set_71 (by decide) ?_
            exact retz hC hK hR hS (Or.inl rfl) (by first | exact Or.inr (Or.inr (Or.inr ((⟨by first | rfl | omega, by first | rfl | assumption, by rfl, by first | omega | assumption, by first | omega | assumption, by first | omega | assumption⟩)))) | exact False.elim (by omega)) dX9_set_72
          · skip
            refine lv_aload_n hC.x hC.b dX9_set_63 rfl (lv_at hl 0 rfl) ?_
            refine lv_iload_n hC.x hC.b dX9_set_64 rfl (lv_at hl 2 rfl) ?_
            refine rputi hC hK hG hR hS (ct_bench G _ _) rfl uin_X9 tyX9 tyX9_ok nmX9 11 (by decide) TF_X9_74 rfl (Or.inl rfl) (Nat.le_of_ble_eq_true rfl) rfl (ct_bench G _ _) dX9_set_65 (fun s_7 es_6 H locs hR hS => ?_)
            refine lv_goto (tgt := 73) hC.x hC.b dX9_set_68 (by decide) ?_
            refine lv_iconst (v := 1) hC.x hC.b dX9_set_73 (by decide) ?_
            exact retz hC hK hR hS (Or.inr rfl) (by first | exact Or.inl (⟨by subst es_6; (first | rfl | omega), by subst es_6; (first | rfl | assumption), by subst es_6; (rfl), by subst es_6; (first | omega | assumption), by subst es_6; (first | omega | assumption)⟩) | exact Or.inr (Or.inl (⟨by subst es_6; (first | rfl | omega), by subst es_6; (first | rfl | assumption), by subst es_6; (rfl), by subst es_6; (first | omega | assumption), by subst es_6; (first | omega | assumption)⟩)) | exact Or.inr (Or.inr (Or.inl (⟨by subst es_6; (first | rfl | omega), by subst es_6; (first | rfl | assumption), by subst es_6; (rfl), by subst es_6; (first | omega | assumption), by subst es_6; (first | omega | assumption)⟩))) | exact False.elim (by omega)) dX9_set_74
    · skip
      refine lv_iload_n hC.x hC.b dX9_set_28 rfl (lv_at hl 2 rfl) ?_
      refine lv_iconst (v := 2) hC.x hC.b dX9_set_29 (by decide) ?_
      refine bi_lt (tgt := 47) (a := xa.toInt) (b := 2) hC.x hC.b rfl rfl dX9_set_30 (by decide) (fun c_8 => ?_) (fun c_8 => ?_)
      · skip
        refine lv_iload_n hC.x hC.b dX9_set_47 rfl (lv_at hl 1 rfl) ?_
        refine lv_iconst (v := 2) hC.x hC.b dX9_set_48 (by decide) ?_
        refine bi_ne (tgt := 71) (a := wa.toInt) (b := 2) hC.x hC.b rfl rfl dX9_set_49 (by decide) (fun c_9 => ?_) (fun c_9 => ?_)
        · skip
          refine lv_iconst (v := 0) hC.x hC.b dX9_set_71 (by decide) ?_
          exact retz hC hK hR hS (Or.inl rfl) (by first | exact Or.inr (Or.inr (Or.inr ((⟨by first | rfl | omega, by first | rfl | assumption, by rfl, by first | omega | assumption, by first | omega | assumption, by first | omega | assumption⟩)))) | exact False.elim (by omega)) dX9_set_72
        · skip
          refine lv_iload_n hC.x hC.b dX9_set_52 rfl (lv_at hl 2 rfl) ?_
          refine bz_lt (tgt := 71) (a := xa.toInt) (b := 0) hC.x hC.b rfl rfl dX9_set_53 (by decide) (fun c_10 => ?_) (fun c_10 => ?_)
          · skip
            refine lv_iconst (v := 0) hC.x hC.b dX9_set_71 (by decide) ?_
            exact retz hC hK hR hS (Or.inl rfl) (by first | exact Or.inr (Or.inr (Or.inr ((⟨by first | rfl | omega, by first | rfl | assumption, by rfl, by first | omega | assumption, by first | omega | assumption, by first | omega | assumption⟩)))) | exact False.elim (by omega)) dX9_set_72
          · skip
            refine lv_iload_n hC.x hC.b dX9_set_56 rfl (lv_at hl 2 rfl) ?_
            refine lv_sipush (v := 3599) hC.x hC.b dX9_set_57 (by decide) ?_
            refine bi_gt (tgt := 71) (a := xa.toInt) (b := 3599) hC.x hC.b rfl rfl dX9_set_60 (by decide) (fun c_11 => ?_) (fun c_11 => ?_)
            · skip
              refine lv_iconst (v := 0) hC.x hC.b dX9_set_71 (by decide) ?_
              exact retz hC hK hR hS (Or.inl rfl) (by first | exact Or.inr (Or.inr (Or.inr ((⟨by first | rfl | omega, by first | rfl | assumption, by rfl, by first | omega | assumption, by first | omega | assumption, by first | omega | assumption⟩)))) | exact False.elim (by omega)) dX9_set_72
            · skip
              refine lv_aload_n hC.x hC.b dX9_set_63 rfl (lv_at hl 0 rfl) ?_
              refine lv_iload_n hC.x hC.b dX9_set_64 rfl (lv_at hl 2 rfl) ?_
              refine rputi hC hK hG hR hS (ct_bench G _ _) rfl uin_X9 tyX9 tyX9_ok nmX9 11 (by decide) TF_X9_74 rfl (Or.inl rfl) (Nat.le_of_ble_eq_true rfl) rfl (ct_bench G _ _) dX9_set_65 (fun s_13 es_12 H locs hR hS => ?_)
              refine lv_goto (tgt := 73) hC.x hC.b dX9_set_68 (by decide) ?_
              refine lv_iconst (v := 1) hC.x hC.b dX9_set_73 (by decide) ?_
              exact retz hC hK hR hS (Or.inr rfl) (by first | exact Or.inl (⟨by subst es_12; (first | rfl | omega), by subst es_12; (first | rfl | assumption), by subst es_12; (rfl), by subst es_12; (first | omega | assumption), by subst es_12; (first | omega | assumption)⟩) | exact Or.inr (Or.inl (⟨by subst es_12; (first | rfl | omega), by subst es_12; (first | rfl | assumption), by subst es_12; (rfl), by subst es_12; (first | omega | assumption), by subst es_12; (first | omega | assumption)⟩)) | exact Or.inr (Or.inr (Or.inl (⟨by subst es_12; (first | rfl | omega), by subst es_12; (first | rfl | assumption), by subst es_12; (rfl), by subst es_12; (first | omega | assumption), by subst es_12; (first | omega | assumption)⟩))) | exact False.elim (by omega)) dX9_set_74
      · skip
        refine lv_iload_n hC.x hC.b dX9_set_33 rfl (lv_at hl 2 rfl) ?_
        refine lv_bipush (v := 20) hC.x hC.b dX9_set_34 (by decide) ?_
        refine bi_gt (tgt := 47) (a := xa.toInt) (b := 20) hC.x hC.b rfl rfl dX9_set_36 (by decide) (fun c_14 => ?_) (fun c_14 => ?_)
        · skip
          refine lv_iload_n hC.x hC.b dX9_set_47 rfl (lv_at hl 1 rfl) ?_
          refine lv_iconst (v := 2) hC.x hC.b dX9_set_48 (by decide) ?_
          refine bi_ne (tgt := 71) (a := wa.toInt) (b := 2) hC.x hC.b rfl rfl dX9_set_49 (by decide) (fun c_15 => ?_) (fun c_15 => ?_)
          · skip
            refine lv_iconst (v := 0) hC.x hC.b dX9_set_71 (by decide) ?_
            exact retz hC hK hR hS (Or.inl rfl) (by first | exact Or.inr (Or.inr (Or.inr ((⟨by first | rfl | omega, by first | rfl | assumption, by rfl, by first | omega | assumption, by first | omega | assumption, by first | omega | assumption⟩)))) | exact False.elim (by omega)) dX9_set_72
          · skip
            refine lv_iload_n hC.x hC.b dX9_set_52 rfl (lv_at hl 2 rfl) ?_
            refine bz_lt (tgt := 71) (a := xa.toInt) (b := 0) hC.x hC.b rfl rfl dX9_set_53 (by decide) (fun c_16 => ?_) (fun c_16 => ?_)
            · skip
              refine lv_iconst (v := 0) hC.x hC.b dX9_set_71 (by decide) ?_
              exact retz hC hK hR hS (Or.inl rfl) (by first | exact Or.inr (Or.inr (Or.inr ((⟨by first | rfl | omega, by first | rfl | assumption, by rfl, by first | omega | assumption, by first | omega | assumption, by first | omega | assumption⟩)))) | exact False.elim (by omega)) dX9_set_72
            · skip
              refine lv_iload_n hC.x hC.b dX9_set_56 rfl (lv_at hl 2 rfl) ?_
              refine lv_sipush (v := 3599) hC.x hC.b dX9_set_57 (by decide) ?_
              refine bi_gt (tgt := 71) (a := xa.toInt) (b := 3599) hC.x hC.b rfl rfl dX9_set_60 (by decide) (fun c_17 => ?_) (fun c_17 => ?_)
              · skip
                refine lv_iconst (v := 0) hC.x hC.b dX9_set_71 (by decide) ?_
                exact retz hC hK hR hS (Or.inl rfl) (by first | exact Or.inr (Or.inr (Or.inr ((⟨by first | rfl | omega, by first | rfl | assumption, by rfl, by first | omega | assumption, by first | omega | assumption, by first | omega | assumption⟩)))) | exact False.elim (by omega)) dX9_set_72
              · skip
                refine lv_aload_n hC.x hC.b dX9_set_63 rfl (lv_at hl 0 rfl) ?_
                refine lv_iload_n hC.x hC.b dX9_set_64 rfl (lv_at hl 2 rfl) ?_
                refine rputi hC hK hG hR hS (ct_bench G _ _) rfl uin_X9 tyX9 tyX9_ok nmX9 11 (by decide) TF_X9_74 rfl (Or.inl rfl) (Nat.le_of_ble_eq_true rfl) rfl (ct_bench G _ _) dX9_set_65 (fun s_19 es_18 H locs hR hS => ?_)
                refine lv_goto (tgt := 73) hC.x hC.b dX9_set_68 (by decide) ?_
                refine lv_iconst (v := 1) hC.x hC.b dX9_set_73 (by decide) ?_
                exact retz hC hK hR hS (Or.inr rfl) (by first | exact Or.inl (⟨by subst es_18; (first | rfl | omega), by subst es_18; (first | rfl | assumption), by subst es_18; (rfl), by subst es_18; (first | omega | assumption), by subst es_18; (first | omega | assumption)⟩) | exact Or.inr (Or.inl (⟨by subst es_18; (first | rfl | omega), by subst es_18; (first | rfl | assumption), by subst es_18; (rfl), by subst es_18; (first | omega | assumption), by subst es_18; (first | omega | assumption)⟩)) | exact Or.inr (Or.inr (Or.inl (⟨by subst es_18; (first | rfl | omega), by subst es_18; (first | rfl | assumption), by subst es_18; (rfl), by subst es_18; (first | omega | assumption), by subst es_18; (first | omega | assumption)⟩))) | exact False.elim (by omega)) dX9_set_74
        · skip
          refine lv_aload_n hC.x hC.b dX9_set_39 rfl (lv_at hl 0 rfl) ?_
          refine lv_iload_n hC.x hC.b dX9_set_40 rfl (lv_at hl 2 rfl) ?_
          refine rputi hC hK hG hR hS (ct_bench G _ _) rfl uin_X9 tyX9 tyX9_ok nmX9 10 (by decide) TF_X9_71 rfl (Or.inl rfl) (Nat.le_of_ble_eq_true rfl) rfl (ct_bench G _ _) dX9_set_41 (fun s_21 es_20 H locs hR hS => ?_)
          refine lv_goto (tgt := 73) hC.x hC.b dX9_set_44 (by decide) ?_
          refine lv_iconst (v := 1) hC.x hC.b dX9_set_73 (by decide) ?_
          exact retz hC hK hR hS (Or.inr rfl) (by first | exact Or.inl (⟨by subst es_20; (first | rfl | omega), by subst es_20; (first | rfl | assumption), by subst es_20; (rfl), by subst es_20; (first | omega | assumption), by subst es_20; (first | omega | assumption)⟩) | exact Or.inr (Or.inl (⟨by subst es_20; (first | rfl | omega), by subst es_20; (first | rfl | assumption), by subst es_20; (rfl), by subst es_20; (first | omega | assumption), by subst es_20; (first | omega | assumption)⟩)) | exact Or.inr (Or.inr (Or.inl (⟨by subst es_20; (first | rfl | omega), by subst es_20; (first | rfl | assumption), by subst es_20; (rfl), by subst es_20; (first | omega | assumption), by subst es_20; (first | omega | assumption)⟩))) | exact False.elim (by omega)) dX9_set_74
  · skip
    refine lv_iload_n hC.x hC.b dX9_set_4 rfl (lv_at hl 2 rfl) ?_
    refine lv_iconst (v := 1) hC.x hC.b dX9_set_5 (by decide) ?_
    refine bi_lt (tgt := 23) (a := xa.toInt) (b := 1) hC.x hC.b rfl rfl dX9_set_6 (by decide) (fun c_22 => ?_) (fun c_22 => ?_)
    · skip
      refine lv_iload_n hC.x hC.b dX9_set_23 rfl (lv_at hl 1 rfl) ?_
      refine lv_iconst (v := 1) hC.x hC.b dX9_set_24 (by decide) ?_
      refine bi_ne (tgt := 47) (a := wa.toInt) (b := 1) hC.x hC.b rfl rfl dX9_set_25 (by decide) (fun c_23 => ?_) (fun c_23 => ?_)
      · skip
        refine lv_iload_n hC.x hC.b dX9_set_47 rfl (lv_at hl 1 rfl) ?_
        refine lv_iconst (v := 2) hC.x hC.b dX9_set_48 (by decide) ?_
        refine bi_ne (tgt := 71) (a := wa.toInt) (b := 2) hC.x hC.b rfl rfl dX9_set_49 (by decide) (fun c_24 => ?_) (fun c_24 => ?_)
        · skip
          refine lv_iconst (v := 0) hC.x hC.b dX9_set_71 (by decide) ?_
          exact retz hC hK hR hS (Or.inl rfl) (by first | exact Or.inr (Or.inr (Or.inr ((⟨by first | rfl | omega, by first | rfl | assumption, by rfl, by first | omega | assumption, by first | omega | assumption, by first | omega | assumption⟩)))) | exact False.elim (by omega)) dX9_set_72
        · skip
          refine lv_iload_n hC.x hC.b dX9_set_52 rfl (lv_at hl 2 rfl) ?_
          refine bz_lt (tgt := 71) (a := xa.toInt) (b := 0) hC.x hC.b rfl rfl dX9_set_53 (by decide) (fun c_25 => ?_) (fun c_25 => ?_)
          · skip
            refine lv_iconst (v := 0) hC.x hC.b dX9_set_71 (by decide) ?_
            exact retz hC hK hR hS (Or.inl rfl) (by first | exact Or.inr (Or.inr (Or.inr ((⟨by first | rfl | omega, by first | rfl | assumption, by rfl, by first | omega | assumption, by first | omega | assumption, by first | omega | assumption⟩)))) | exact False.elim (by omega)) dX9_set_72
          · skip
            refine lv_iload_n hC.x hC.b dX9_set_56 rfl (lv_at hl 2 rfl) ?_
            refine lv_sipush (v := 3599) hC.x hC.b dX9_set_57 (by decide) ?_
            refine bi_gt (tgt := 71) (a := xa.toInt) (b := 3599) hC.x hC.b rfl rfl dX9_set_60 (by decide) (fun c_26 => ?_) (fun c_26 => ?_)
            · skip
              refine lv_iconst (v := 0) hC.x hC.b dX9_set_71 (by decide) ?_
              exact retz hC hK hR hS (Or.inl rfl) (by first | exact Or.inr (Or.inr (Or.inr ((⟨by first | rfl | omega, by first | rfl | assumption, by rfl, by first | omega | assumption, by first | omega | assumption, by first | omega | assumption⟩)))) | exact False.elim (by omega)) dX9_set_72
            · skip
              refine lv_aload_n hC.x hC.b dX9_set_63 rfl (lv_at hl 0 rfl) ?_
              refine lv_iload_n hC.x hC.b dX9_set_64 rfl (lv_at hl 2 rfl) ?_
              refine rputi hC hK hG hR hS (ct_bench G _ _) rfl uin_X9 tyX9 tyX9_ok nmX9 11 (by decide) TF_X9_74 rfl (Or.inl rfl) (Nat.le_of_ble_eq_true rfl) rfl (ct_bench G _ _) dX9_set_65 (fun s_28 es_27 H locs hR hS => ?_)
              refine lv_goto (tgt := 73) hC.x hC.b dX9_set_68 (by decide) ?_
              refine lv_iconst (v := 1) hC.x hC.b dX9_set_73 (by decide) ?_
              exact retz hC hK hR hS (Or.inr rfl) (by first | exact Or.inl (⟨by subst es_27; (first | rfl | omega), by subst es_27; (first | rfl | assumption), by subst es_27; (rfl), by subst es_27; (first | omega | assumption), by subst es_27; (first | omega | assumption)⟩) | exact Or.inr (Or.inl (⟨by subst es_27; (first | rfl | omega), by subst es_27; (first | rfl | assumption), by subst es_27; (rfl), by subst es_27; (first | omega | assumption), by subst es_27; (first | omega | assumption)⟩)) | exact Or.inr (Or.inr (Or.inl (⟨by subst es_27; (first | rfl | omega), by subst es_27; (first | rfl | assumption), by subst es_27; (rfl), by subst es_27; (first | omega | assumption), by subst es_27; (first | omega | assumption)⟩))) | exact False.elim (by omega)) dX9_set_74
      · skip
        refine lv_iload_n hC.x hC.b dX9_set_28 rfl (lv_at hl 2 rfl) ?_
        refine lv_iconst (v := 2) hC.x hC.b dX9_set_29 (by decide) ?_
        refine bi_lt (tgt := 47) (a := xa.toInt) (b := 2) hC.x hC.b rfl rfl dX9_set_30 (by decide) (fun c_29 => ?_) (fun c_29 => ?_)
        · skip
          refine lv_iload_n hC.x hC.b dX9_set_47 rfl (lv_at hl 1 rfl) ?_
          refine lv_iconst (v := 2) hC.x hC.b dX9_set_48 (by decide) ?_
          refine bi_ne (tgt := 71) (a := wa.toInt) (b := 2) hC.x hC.b rfl rfl dX9_set_49 (by decide) (fun c_30 => ?_) (fun c_30 => ?_)
          · skip
            refine lv_iconst (v := 0) hC.x hC.b dX9_set_71 (by decide) ?_
            exact retz hC hK hR hS (Or.inl rfl) (by first | exact Or.inr (Or.inr (Or.inr ((⟨by first | rfl | omega, by first | rfl | assumption, by rfl, by first | omega | assumption, by first | omega | assumption, by first | omega | assumption⟩)))) | exact False.elim (by omega)) dX9_set_72
          · skip
            refine lv_iload_n hC.x hC.b dX9_set_52 rfl (lv_at hl 2 rfl) ?_
            refine bz_lt (tgt := 71) (a := xa.toInt) (b := 0) hC.x hC.b rfl rfl dX9_set_53 (by decide) (fun c_31 => ?_) (fun c_31 => ?_)
            · skip
              refine lv_iconst (v := 0) hC.x hC.b dX9_set_71 (by decide) ?_
              exact retz hC hK hR hS (Or.inl rfl) (by first | exact Or.inr (Or.inr (Or.inr ((⟨by first | rfl | omega, by first | rfl | assumption, by rfl, by first | omega | assumption, by first | omega | assumption, by first | omega | assumption⟩)))) | exact False.elim (by omega)) dX9_set_72
            · skip
              refine lv_iload_n hC.x hC.b dX9_set_56 rfl (lv_at hl 2 rfl) ?_
              refine lv_sipush (v := 3599) hC.x hC.b dX9_set_57 (by decide) ?_
              refine bi_gt (tgt := 71) (a := xa.toInt) (b := 3599) hC.x hC.b rfl rfl dX9_set_60 (by decide) (fun c_32 => ?_) (fun c_32 => ?_)
              · skip
                refine lv_iconst (v := 0) hC.x hC.b dX9_set_71 (by decide) ?_
                exact retz hC hK hR hS (Or.inl rfl) (by first | exact Or.inr (Or.inr (Or.inr ((⟨by first | rfl | omega, by first | rfl | assumption, by rfl, by first | omega | assumption, by first | omega | assumption, by first | omega | assumption⟩)))) | exact False.elim (by omega)) dX9_set_72
              · skip
                refine lv_aload_n hC.x hC.b dX9_set_63 rfl (lv_at hl 0 rfl) ?_
                refine lv_iload_n hC.x hC.b dX9_set_64 rfl (lv_at hl 2 rfl) ?_
                refine rputi hC hK hG hR hS (ct_bench G _ _) rfl uin_X9 tyX9 tyX9_ok nmX9 11 (by decide) TF_X9_74 rfl (Or.inl rfl) (Nat.le_of_ble_eq_true rfl) rfl (ct_bench G _ _) dX9_set_65 (fun s_34 es_33 H locs hR hS => ?_)
                refine lv_goto (tgt := 73) hC.x hC.b dX9_set_68 (by decide) ?_
                refine lv_iconst (v := 1) hC.x hC.b dX9_set_73 (by decide) ?_
                exact retz hC hK hR hS (Or.inr rfl) (by first | exact Or.inl (⟨by subst es_33; (first | rfl | omega), by subst es_33; (first | rfl | assumption), by subst es_33; (rfl), by subst es_33; (first | omega | assumption), by subst es_33; (first | omega | assumption)⟩) | exact Or.inr (Or.inl (⟨by subst es_33; (first | rfl | omega), by subst es_33; (first | rfl | assumption), by subst es_33; (rfl), by subst es_33; (first | omega | assumption), by subst es_33; (first | omega | assumption)⟩)) | exact Or.inr (Or.inr (Or.inl (⟨by subst es_33; (first | rfl | omega), by subst es_33; (first | rfl | assumption), by subst es_33; (rfl), by subst es_33; (first | omega | assumption), by subst es_33; (first | omega | assumption)⟩))) | exact False.elim (by omega)) dX9_set_74
        · skip
          refine lv_iload_n hC.x hC.b dX9_set_33 rfl (lv_at hl 2 rfl) ?_
          refine lv_bipush (v := 20) hC.x hC.b dX9_set_34 (by decide) ?_
          refine bi_gt (tgt := 47) (a := xa.toInt) (b := 20) hC.x hC.b rfl rfl dX9_set_36 (by decide) (fun c_35 => ?_) (fun c_35 => ?_)
          · skip
            refine lv_iload_n hC.x hC.b dX9_set_47 rfl (lv_at hl 1 rfl) ?_
            refine lv_iconst (v := 2) hC.x hC.b dX9_set_48 (by decide) ?_
            refine bi_ne (tgt := 71) (a := wa.toInt) (b := 2) hC.x hC.b rfl rfl dX9_set_49 (by decide) (fun c_36 => ?_) (fun c_36 => ?_)
            · skip
              refine lv_iconst (v := 0) hC.x hC.b dX9_set_71 (by decide) ?_
              exact retz hC hK hR hS (Or.inl rfl) (by first | exact Or.inr (Or.inr (Or.inr ((⟨by first | rfl | omega, by first | rfl | assumption, by rfl, by first | omega | assumption, by first | omega | assumption, by first | omega | assumption⟩)))) | exact False.elim (by omega)) dX9_set_72
            · skip
              refine lv_iload_n hC.x hC.b dX9_set_52 rfl (lv_at hl 2 rfl) ?_
              refine bz_lt (tgt := 71) (a := xa.toInt) (b := 0) hC.x hC.b rfl rfl dX9_set_53 (by decide) (fun c_37 => ?_) (fun c_37 => ?_)
              · skip
                refine lv_iconst (v := 0) hC.x hC.b dX9_set_71 (by decide) ?_
                exact retz hC hK hR hS (Or.inl rfl) (by first | exact Or.inr (Or.inr (Or.inr ((⟨by first | rfl | omega, by first | rfl | assumption, by rfl, by first | omega | assumption, by first | omega | assumption, by first | omega | assumption⟩)))) | exact False.elim (by omega)) dX9_set_72
              · skip
                refine lv_iload_n hC.x hC.b dX9_set_56 rfl (lv_at hl 2 rfl) ?_
                refine lv_sipush (v := 3599) hC.x hC.b dX9_set_57 (by decide) ?_
                refine bi_gt (tgt := 71) (a := xa.toInt) (b := 3599) hC.x hC.b rfl rfl dX9_set_60 (by decide) (fun c_38 => ?_) (fun c_38 => ?_)
                · skip
                  refine lv_iconst (v := 0) hC.x hC.b dX9_set_71 (by decide) ?_
                  exact retz hC hK hR hS (Or.inl rfl) (by first | exact Or.inr (Or.inr (Or.inr ((⟨by first | rfl | omega, by first | rfl | assumption, by rfl, by first | omega | assumption, by first | omega | assumption, by first | omega | assumption⟩)))) | exact False.elim (by omega)) dX9_set_72
                · skip
                  refine lv_aload_n hC.x hC.b dX9_set_63 rfl (lv_at hl 0 rfl) ?_
                  refine lv_iload_n hC.x hC.b dX9_set_64 rfl (lv_at hl 2 rfl) ?_
                  refine rputi hC hK hG hR hS (ct_bench G _ _) rfl uin_X9 tyX9 tyX9_ok nmX9 11 (by decide) TF_X9_74 rfl (Or.inl rfl) (Nat.le_of_ble_eq_true rfl) rfl (ct_bench G _ _) dX9_set_65 (fun s_40 es_39 H locs hR hS => ?_)
                  refine lv_goto (tgt := 73) hC.x hC.b dX9_set_68 (by decide) ?_
                  refine lv_iconst (v := 1) hC.x hC.b dX9_set_73 (by decide) ?_
                  exact retz hC hK hR hS (Or.inr rfl) (by first | exact Or.inl (⟨by subst es_39; (first | rfl | omega), by subst es_39; (first | rfl | assumption), by subst es_39; (rfl), by subst es_39; (first | omega | assumption), by subst es_39; (first | omega | assumption)⟩) | exact Or.inr (Or.inl (⟨by subst es_39; (first | rfl | omega), by subst es_39; (first | rfl | assumption), by subst es_39; (rfl), by subst es_39; (first | omega | assumption), by subst es_39; (first | omega | assumption)⟩)) | exact Or.inr (Or.inr (Or.inl (⟨by subst es_39; (first | rfl | omega), by subst es_39; (first | rfl | assumption), by subst es_39; (rfl), by subst es_39; (first | omega | assumption), by subst es_39; (first | omega | assumption)⟩))) | exact False.elim (by omega)) dX9_set_74
          · skip
            refine lv_aload_n hC.x hC.b dX9_set_39 rfl (lv_at hl 0 rfl) ?_
            refine lv_iload_n hC.x hC.b dX9_set_40 rfl (lv_at hl 2 rfl) ?_
            refine rputi hC hK hG hR hS (ct_bench G _ _) rfl uin_X9 tyX9 tyX9_ok nmX9 10 (by decide) TF_X9_71 rfl (Or.inl rfl) (Nat.le_of_ble_eq_true rfl) rfl (ct_bench G _ _) dX9_set_41 (fun s_42 es_41 H locs hR hS => ?_)
            refine lv_goto (tgt := 73) hC.x hC.b dX9_set_44 (by decide) ?_
            refine lv_iconst (v := 1) hC.x hC.b dX9_set_73 (by decide) ?_
            exact retz hC hK hR hS (Or.inr rfl) (by first | exact Or.inl (⟨by subst es_41; (first | rfl | omega), by subst es_41; (first | rfl | assumption), by subst es_41; (rfl), by subst es_41; (first | omega | assumption), by subst es_41; (first | omega | assumption)⟩) | exact Or.inr (Or.inl (⟨by subst es_41; (first | rfl | omega), by subst es_41; (first | rfl | assumption), by subst es_41; (rfl), by subst es_41; (first | omega | assumption), by subst es_41; (first | omega | assumption)⟩)) | exact Or.inr (Or.inr (Or.inl (⟨by subst es_41; (first | rfl | omega), by subst es_41; (first | rfl | assumption), by subst es_41; (rfl), by subst es_41; (first | omega | assumption), by subst es_41; (first | omega | assumption)⟩))) | exact False.elim (by omega)) dX9_set_74
    · skip
      refine lv_iload_n hC.x hC.b dX9_set_9 rfl (lv_at hl 2 rfl) ?_
      refine lv_bipush (v := 100) hC.x hC.b dX9_set_10 (by decide) ?_
      refine bi_gt (tgt := 23) (a := xa.toInt) (b := 100) hC.x hC.b rfl rfl dX9_set_12 (by decide) (fun c_43 => ?_) (fun c_43 => ?_)
      · skip
        refine lv_iload_n hC.x hC.b dX9_set_23 rfl (lv_at hl 1 rfl) ?_
        refine lv_iconst (v := 1) hC.x hC.b dX9_set_24 (by decide) ?_
        refine bi_ne (tgt := 47) (a := wa.toInt) (b := 1) hC.x hC.b rfl rfl dX9_set_25 (by decide) (fun c_44 => ?_) (fun c_44 => ?_)
        · skip
          refine lv_iload_n hC.x hC.b dX9_set_47 rfl (lv_at hl 1 rfl) ?_
          refine lv_iconst (v := 2) hC.x hC.b dX9_set_48 (by decide) ?_
          refine bi_ne (tgt := 71) (a := wa.toInt) (b := 2) hC.x hC.b rfl rfl dX9_set_49 (by decide) (fun c_45 => ?_) (fun c_45 => ?_)
          · skip
            refine lv_iconst (v := 0) hC.x hC.b dX9_set_71 (by decide) ?_
            exact retz hC hK hR hS (Or.inl rfl) (by first | exact Or.inr (Or.inr (Or.inr ((⟨by first | rfl | omega, by first | rfl | assumption, by rfl, by first | omega | assumption, by first | omega | assumption, by first | omega | assumption⟩)))) | exact False.elim (by omega)) dX9_set_72
          · skip
            refine lv_iload_n hC.x hC.b dX9_set_52 rfl (lv_at hl 2 rfl) ?_
            refine bz_lt (tgt := 71) (a := xa.toInt) (b := 0) hC.x hC.b rfl rfl dX9_set_53 (by decide) (fun c_46 => ?_) (fun c_46 => ?_)
            · skip
              refine lv_iconst (v := 0) hC.x hC.b dX9_set_71 (by decide) ?_
              exact retz hC hK hR hS (Or.inl rfl) (by first | exact Or.inr (Or.inr (Or.inr ((⟨by first | rfl | omega, by first | rfl | assumption, by rfl, by first | omega | assumption, by first | omega | assumption, by first | omega | assumption⟩)))) | exact False.elim (by omega)) dX9_set_72
            · skip
              refine lv_iload_n hC.x hC.b dX9_set_56 rfl (lv_at hl 2 rfl) ?_
              refine lv_sipush (v := 3599) hC.x hC.b dX9_set_57 (by decide) ?_
              refine bi_gt (tgt := 71) (a := xa.toInt) (b := 3599) hC.x hC.b rfl rfl dX9_set_60 (by decide) (fun c_47 => ?_) (fun c_47 => ?_)
              · skip
                refine lv_iconst (v := 0) hC.x hC.b dX9_set_71 (by decide) ?_
                exact retz hC hK hR hS (Or.inl rfl) (by first | exact Or.inr (Or.inr (Or.inr ((⟨by first | rfl | omega, by first | rfl | assumption, by rfl, by first | omega | assumption, by first | omega | assumption, by first | omega | assumption⟩)))) | exact False.elim (by omega)) dX9_set_72
              · skip
                refine lv_aload_n hC.x hC.b dX9_set_63 rfl (lv_at hl 0 rfl) ?_
                refine lv_iload_n hC.x hC.b dX9_set_64 rfl (lv_at hl 2 rfl) ?_
                refine rputi hC hK hG hR hS (ct_bench G _ _) rfl uin_X9 tyX9 tyX9_ok nmX9 11 (by decide) TF_X9_74 rfl (Or.inl rfl) (Nat.le_of_ble_eq_true rfl) rfl (ct_bench G _ _) dX9_set_65 (fun s_49 es_48 H locs hR hS => ?_)
                refine lv_goto (tgt := 73) hC.x hC.b dX9_set_68 (by decide) ?_
                refine lv_iconst (v := 1) hC.x hC.b dX9_set_73 (by decide) ?_
                exact retz hC hK hR hS (Or.inr rfl) (by first | exact Or.inl (⟨by subst es_48; (first | rfl | omega), by subst es_48; (first | rfl | assumption), by subst es_48; (rfl), by subst es_48; (first | omega | assumption), by subst es_48; (first | omega | assumption)⟩) | exact Or.inr (Or.inl (⟨by subst es_48; (first | rfl | omega), by subst es_48; (first | rfl | assumption), by subst es_48; (rfl), by subst es_48; (first | omega | assumption), by subst es_48; (first | omega | assumption)⟩)) | exact Or.inr (Or.inr (Or.inl (⟨by subst es_48; (first | rfl | omega), by subst es_48; (first | rfl | assumption), by subst es_48; (rfl), by subst es_48; (first | omega | assumption), by subst es_48; (first | omega | assumption)⟩))) | exact False.elim (by omega)) dX9_set_74
        · skip
          refine lv_iload_n hC.x hC.b dX9_set_28 rfl (lv_at hl 2 rfl) ?_
          refine lv_iconst (v := 2) hC.x hC.b dX9_set_29 (by decide) ?_
          refine bi_lt (tgt := 47) (a := xa.toInt) (b := 2) hC.x hC.b rfl rfl dX9_set_30 (by decide) (fun c_50 => ?_) (fun c_50 => ?_)
          · skip
            refine lv_iload_n hC.x hC.b dX9_set_47 rfl (lv_at hl 1 rfl) ?_
            refine lv_iconst (v := 2) hC.x hC.b dX9_set_48 (by decide) ?_
            refine bi_ne (tgt := 71) (a := wa.toInt) (b := 2) hC.x hC.b rfl rfl dX9_set_49 (by decide) (fun c_51 => ?_) (fun c_51 => ?_)
            · skip
              refine lv_iconst (v := 0) hC.x hC.b dX9_set_71 (by decide) ?_
              exact retz hC hK hR hS (Or.inl rfl) (by first | exact Or.inr (Or.inr (Or.inr ((⟨by first | rfl | omega, by first | rfl | assumption, by rfl, by first | omega | assumption, by first | omega | assumption, by first | omega | assumption⟩)))) | exact False.elim (by omega)) dX9_set_72
            · skip
              refine lv_iload_n hC.x hC.b dX9_set_52 rfl (lv_at hl 2 rfl) ?_
              refine bz_lt (tgt := 71) (a := xa.toInt) (b := 0) hC.x hC.b rfl rfl dX9_set_53 (by decide) (fun c_52 => ?_) (fun c_52 => ?_)
              · skip
                refine lv_iconst (v := 0) hC.x hC.b dX9_set_71 (by decide) ?_
                exact retz hC hK hR hS (Or.inl rfl) (by first | exact Or.inr (Or.inr (Or.inr ((⟨by first | rfl | omega, by first | rfl | assumption, by rfl, by first | omega | assumption, by first | omega | assumption, by first | omega | assumption⟩)))) | exact False.elim (by omega)) dX9_set_72
              · skip
                refine lv_iload_n hC.x hC.b dX9_set_56 rfl (lv_at hl 2 rfl) ?_
                refine lv_sipush (v := 3599) hC.x hC.b dX9_set_57 (by decide) ?_
                refine bi_gt (tgt := 71) (a := xa.toInt) (b := 3599) hC.x hC.b rfl rfl dX9_set_60 (by decide) (fun c_53 => ?_) (fun c_53 => ?_)
                · skip
                  refine lv_iconst (v := 0) hC.x hC.b dX9_set_71 (by decide) ?_
                  exact retz hC hK hR hS (Or.inl rfl) (by first | exact Or.inr (Or.inr (Or.inr ((⟨by first | rfl | omega, by first | rfl | assumption, by rfl, by first | omega | assumption, by first | omega | assumption, by first | omega | assumption⟩)))) | exact False.elim (by omega)) dX9_set_72
                · skip
                  refine lv_aload_n hC.x hC.b dX9_set_63 rfl (lv_at hl 0 rfl) ?_
                  refine lv_iload_n hC.x hC.b dX9_set_64 rfl (lv_at hl 2 rfl) ?_
                  refine rputi hC hK hG hR hS (ct_bench G _ _) rfl uin_X9 tyX9 tyX9_ok nmX9 11 (by decide) TF_X9_74 rfl (Or.inl rfl) (Nat.le_of_ble_eq_true rfl) rfl (ct_bench G _ _) dX9_set_65 (fun s_55 es_54 H locs hR hS => ?_)
                  refine lv_goto (tgt := 73) hC.x hC.b dX9_set_68 (by decide) ?_
                  refine lv_iconst (v := 1) hC.x hC.b dX9_set_73 (by decide) ?_
                  exact retz hC hK hR hS (Or.inr rfl) (by first | exact Or.inl (⟨by subst es_54; (first | rfl | omega), by subst es_54; (first | rfl | assumption), by subst es_54; (rfl), by subst es_54; (first | omega | assumption), by subst es_54; (first | omega | assumption)⟩) | exact Or.inr (Or.inl (⟨by subst es_54; (first | rfl | omega), by subst es_54; (first | rfl | assumption), by subst es_54; (rfl), by subst es_54; (first | omega | assumption), by subst es_54; (first | omega | assumption)⟩)) | exact Or.inr (Or.inr (Or.inl (⟨by subst es_54; (first | rfl | omega), by subst es_54; (first | rfl | assumption), by subst es_54; (rfl), by subst es_54; (first | omega | assumption), by subst es_54; (first | omega | assumption)⟩))) | exact False.elim (by omega)) dX9_set_74
          · skip
            refine lv_iload_n hC.x hC.b dX9_set_33 rfl (lv_at hl 2 rfl) ?_
            refine lv_bipush (v := 20) hC.x hC.b dX9_set_34 (by decide) ?_
            refine bi_gt (tgt := 47) (a := xa.toInt) (b := 20) hC.x hC.b rfl rfl dX9_set_36 (by decide) (fun c_56 => ?_) (fun c_56 => ?_)
            · skip
              refine lv_iload_n hC.x hC.b dX9_set_47 rfl (lv_at hl 1 rfl) ?_
              refine lv_iconst (v := 2) hC.x hC.b dX9_set_48 (by decide) ?_
              refine bi_ne (tgt := 71) (a := wa.toInt) (b := 2) hC.x hC.b rfl rfl dX9_set_49 (by decide) (fun c_57 => ?_) (fun c_57 => ?_)
              · skip
                refine lv_iconst (v := 0) hC.x hC.b dX9_set_71 (by decide) ?_
                exact retz hC hK hR hS (Or.inl rfl) (by first | exact Or.inr (Or.inr (Or.inr ((⟨by first | rfl | omega, by first | rfl | assumption, by rfl, by first | omega | assumption, by first | omega | assumption, by first | omega | assumption⟩)))) | exact False.elim (by omega)) dX9_set_72
              · skip
                refine lv_iload_n hC.x hC.b dX9_set_52 rfl (lv_at hl 2 rfl) ?_
                refine bz_lt (tgt := 71) (a := xa.toInt) (b := 0) hC.x hC.b rfl rfl dX9_set_53 (by decide) (fun c_58 => ?_) (fun c_58 => ?_)
                · skip
                  refine lv_iconst (v := 0) hC.x hC.b dX9_set_71 (by decide) ?_
                  exact retz hC hK hR hS (Or.inl rfl) (by first | exact Or.inr (Or.inr (Or.inr ((⟨by first | rfl | omega, by first | rfl | assumption, by rfl, by first | omega | assumption, by first | omega | assumption, by first | omega | assumption⟩)))) | exact False.elim (by omega)) dX9_set_72
                · skip
                  refine lv_iload_n hC.x hC.b dX9_set_56 rfl (lv_at hl 2 rfl) ?_
                  refine lv_sipush (v := 3599) hC.x hC.b dX9_set_57 (by decide) ?_
                  refine bi_gt (tgt := 71) (a := xa.toInt) (b := 3599) hC.x hC.b rfl rfl dX9_set_60 (by decide) (fun c_59 => ?_) (fun c_59 => ?_)
                  · skip
                    refine lv_iconst (v := 0) hC.x hC.b dX9_set_71 (by decide) ?_
                    exact retz hC hK hR hS (Or.inl rfl) (by first | exact Or.inr (Or.inr (Or.inr ((⟨by first | rfl | omega, by first | rfl | assumption, by rfl, by first | omega | assumption, by first | omega | assumption, by first | omega | assumption⟩)))) | exact False.elim (by omega)) dX9_set_72
                  · skip
                    refine lv_aload_n hC.x hC.b dX9_set_63 rfl (lv_at hl 0 rfl) ?_
                    refine lv_iload_n hC.x hC.b dX9_set_64 rfl (lv_at hl 2 rfl) ?_
                    refine rputi hC hK hG hR hS (ct_bench G _ _) rfl uin_X9 tyX9 tyX9_ok nmX9 11 (by decide) TF_X9_74 rfl (Or.inl rfl) (Nat.le_of_ble_eq_true rfl) rfl (ct_bench G _ _) dX9_set_65 (fun s_61 es_60 H locs hR hS => ?_)
                    refine lv_goto (tgt := 73) hC.x hC.b dX9_set_68 (by decide) ?_
                    refine lv_iconst (v := 1) hC.x hC.b dX9_set_73 (by decide) ?_
                    exact retz hC hK hR hS (Or.inr rfl) (by first | exact Or.inl (⟨by subst es_60; (first | rfl | omega), by subst es_60; (first | rfl | assumption), by subst es_60; (rfl), by subst es_60; (first | omega | assumption), by subst es_60; (first | omega | assumption)⟩) | exact Or.inr (Or.inl (⟨by subst es_60; (first | rfl | omega), by subst es_60; (first | rfl | assumption), by subst es_60; (rfl), by subst es_60; (first | omega | assumption), by subst es_60; (first | omega | assumption)⟩)) | exact Or.inr (Or.inr (Or.inl (⟨by subst es_60; (first | rfl | omega), by subst es_60; (first | rfl | assumption), by subst es_60; (rfl), by subst es_60; (first | omega | assumption), by subst es_60; (first | omega | assumption)⟩))) | exact False.elim (by omega)) dX9_set_74
            · skip
              refine lv_aload_n hC.x hC.b dX9_set_39 rfl (lv_at hl 0 rfl) ?_
              refine lv_iload_n hC.x hC.b dX9_set_40 rfl (lv_at hl 2 rfl) ?_
              refine rputi hC hK hG hR hS (ct_bench G _ _) rfl uin_X9 tyX9 tyX9_ok nmX9 10 (by decide) TF_X9_71 rfl (Or.inl rfl) (Nat.le_of_ble_eq_true rfl) rfl (ct_bench G _ _) dX9_set_41 (fun s_63 es_62 H locs hR hS => ?_)
              refine lv_goto (tgt := 73) hC.x hC.b dX9_set_44 (by decide) ?_
              refine lv_iconst (v := 1) hC.x hC.b dX9_set_73 (by decide) ?_
              exact retz hC hK hR hS (Or.inr rfl) (by first | exact Or.inl (⟨by subst es_62; (first | rfl | omega), by subst es_62; (first | rfl | assumption), by subst es_62; (rfl), by subst es_62; (first | omega | assumption), by subst es_62; (first | omega | assumption)⟩) | exact Or.inr (Or.inl (⟨by subst es_62; (first | rfl | omega), by subst es_62; (first | rfl | assumption), by subst es_62; (rfl), by subst es_62; (first | omega | assumption), by subst es_62; (first | omega | assumption)⟩)) | exact Or.inr (Or.inr (Or.inl (⟨by subst es_62; (first | rfl | omega), by subst es_62; (first | rfl | assumption), by subst es_62; (rfl), by subst es_62; (first | omega | assumption), by subst es_62; (first | omega | assumption)⟩))) | exact False.elim (by omega)) dX9_set_74
      · skip
        refine lv_aload_n hC.x hC.b dX9_set_15 rfl (lv_at hl 0 rfl) ?_
        refine lv_iload_n hC.x hC.b dX9_set_16 rfl (lv_at hl 2 rfl) ?_
        refine rputi hC hK hG hR hS (ct_bench G _ _) rfl uin_X9 tyX9 tyX9_ok nmX9 9 (by decide) TF_X9_68 rfl (Or.inl rfl) (Nat.le_of_ble_eq_true rfl) rfl (ct_bench G _ _) dX9_set_17 (fun s_65 es_64 H locs hR hS => ?_)
        refine lv_goto (tgt := 73) hC.x hC.b dX9_set_20 (by decide) ?_
        refine lv_iconst (v := 1) hC.x hC.b dX9_set_73 (by decide) ?_
        exact retz hC hK hR hS (Or.inr rfl) (by first | exact Or.inl (⟨by subst es_64; (first | rfl | omega), by subst es_64; (first | rfl | assumption), by subst es_64; (rfl), by subst es_64; (first | omega | assumption), by subst es_64; (first | omega | assumption)⟩) | exact Or.inr (Or.inl (⟨by subst es_64; (first | rfl | omega), by subst es_64; (first | rfl | assumption), by subst es_64; (rfl), by subst es_64; (first | omega | assumption), by subst es_64; (first | omega | assumption)⟩)) | exact Or.inr (Or.inr (Or.inl (⟨by subst es_64; (first | rfl | omega), by subst es_64; (first | rfl | assumption), by subst es_64; (rfl), by subst es_64; (first | omega | assumption), by subst es_64; (first | omega | assumption)⟩))) | exact False.elim (by omega)) dX9_set_74

abbrev po_X9_moveScale (σ : SI) (τ : SL) : SI × SL → Prop := fun u => ((u.2 = τ) ∧ (Fr (fun k => k = 0) σ u.1) ∧ (∀ j, j ≠ 12 → u.1 0 j = σ 0 j) ∧ ((0 < (σ 0 12).toInt ∧ (u.1 0 12).toInt = max 0 ((σ 0 12).toInt - (σ 0 11).toInt)) ∨ ((σ 0 12).toInt ≤ 0 ∧ (u.1 0 12).toInt = min 0 ((σ 0 12).toInt + (σ 0 11).toInt))))
set_option maxRecDepth 100000 in
set_option maxHeartbeats 4000000 in
theorem c_X9_moveScale (l : Launch) {G : Gx} {A : Nat → Prop} (hG : GOk G A) (σ : SI) (τ : SL) (hof : -1000000 ≤ (σ 0 12).toInt ∧ (σ 0 12).toInt ≤ 1000000) (hpc : 0 ≤ (σ 0 11).toInt ∧ (σ 0 11).toInt ≤ 3599) : MV l G A 1 yX9_moveScale cX9_moveScale 1 none [.ref (G.2.1 0)] (σ, τ) (po_X9_moveScale σ τ ) := by
  refine met_of (own := RX9) (by decide +kernel) rfl [(0, .ref (G.2.1 0))] rfl (Nat.le_of_ble_eq_true rfl) ?_
  intro p e s m args below meth c ls hC hK hR hl
  have hS : va_S A s.heap s.heap [] := va_S.rf
  refine lv_aload_n hC.x hC.b dX9_moveScale_0 rfl (lv_at hl 0 rfl) ?_
  refine rget hC hK hR (ct_bench G _ _) rfl uin_X9 12 (by decide) TF_X9_77 rfl dX9_moveScale_1 ?_
  refine bz_le (tgt := 27) (a := (σ 0 12).toInt) (b := 0) hC.x hC.b rfl rfl dX9_moveScale_4 (by decide) (fun c_1 => ?_) (fun c_1 => ?_)
  · skip
    refine lv_aload_n hC.x hC.b dX9_moveScale_27 rfl (lv_at hl 0 rfl) ?_
    refine lv_iconst (v := 0) hC.x hC.b dX9_moveScale_28 (by decide) ?_
    refine lv_aload_n hC.x hC.b dX9_moveScale_29 rfl (lv_at hl 0 rfl) ?_
    refine rget hC hK hR (ct_bench G _ _) rfl uin_X9 12 (by decide) TF_X9_77 rfl dX9_moveScale_30 ?_
    refine lv_aload_n hC.x hC.b dX9_moveScale_33 rfl (lv_at hl 0 rfl) ?_
    refine rget hC hK hR (ct_bench G _ _) rfl uin_X9 11 (by decide) TF_X9_74 rfl dX9_moveScale_34 ?_
    refine lv_iadd hC.x hC.b dX9_moveScale_37 ?_
    have pr_2 : ((σ 0 12) + (σ 0 11)).toInt = ((σ 0 12).toInt + (σ 0 11).toInt) := addI rfl rfl (by omega) (by omega)
    have av_3 : (0 : Int32).toInt = 0 := by decide
    have av_4 : ((σ 0 12) + (σ 0 11)).toInt = ((σ 0 12).toInt + (σ 0 11).toInt) := pr_2
    refine goip (runS (As := [.int (0 : Int32), .int ((σ 0 12) + (σ 0 11))]) (rest := [.ref (G.2.1 0)]) hC hK hR hl.1 (c_J9_min_7cf53 l hG σ τ (0 : Int32) ((σ 0 12) + (σ 0 11)) ) (call_b hC.ts TC_J9_min_7cf53 TN_J9 TM_X9_269 hd_J9_min_7cf53 ⟨Nat.le_of_ble_eq_true rfl, Nat.le_of_ble_eq_true rfl⟩) TT_J9_min_7cf53 rfl rfl (Nat.le_of_ble_eq_true rfl) dX9_moveScale_38 ⟨Nat.le_of_ble_eq_true rfl, Nat.le_of_ble_eq_true rfl⟩) hS (fun v_5 H locs w_6 hR hS => ?_)
    have f_7 := w_6
    refine rputi hC hK hG hR hS (ct_bench G _ _) rfl uin_X9 tyX9 tyX9_ok nmX9 12 (by decide) TF_X9_77 rfl (Or.inl rfl) (Nat.le_of_ble_eq_true rfl) rfl (ct_bench G _ _) dX9_moveScale_41 (fun s_9 es_8 H locs hR hS => ?_)
    exact retv hC hK hR hS (⟨by subst es_8; (rfl), by subst es_8; (exact Fr.up Fr.rf rfl), by subst es_8; (dsimp only; intro j hj; exact up2_n hj), by subst es_8; (dsimp only; rw [up2_s]; omega)⟩) dX9_moveScale_44
  · skip
    refine lv_aload_n hC.x hC.b dX9_moveScale_7 rfl (lv_at hl 0 rfl) ?_
    refine lv_iconst (v := 0) hC.x hC.b dX9_moveScale_8 (by decide) ?_
    refine lv_aload_n hC.x hC.b dX9_moveScale_9 rfl (lv_at hl 0 rfl) ?_
    refine rget hC hK hR (ct_bench G _ _) rfl uin_X9 12 (by decide) TF_X9_77 rfl dX9_moveScale_10 ?_
    refine lv_aload_n hC.x hC.b dX9_moveScale_13 rfl (lv_at hl 0 rfl) ?_
    refine rget hC hK hR (ct_bench G _ _) rfl uin_X9 11 (by decide) TF_X9_74 rfl dX9_moveScale_14 ?_
    refine lv_isub hC.x hC.b dX9_moveScale_17 ?_
    have pr_10 : ((σ 0 12) - (σ 0 11)).toInt = ((σ 0 12).toInt - (σ 0 11).toInt) := subI rfl rfl (by omega) (by omega)
    have av_11 : (0 : Int32).toInt = 0 := by decide
    have av_12 : ((σ 0 12) - (σ 0 11)).toInt = ((σ 0 12).toInt - (σ 0 11).toInt) := pr_10
    refine goip (runS (As := [.int (0 : Int32), .int ((σ 0 12) - (σ 0 11))]) (rest := [.ref (G.2.1 0)]) hC hK hR hl.1 (c_J9_max_7cf53 l hG σ τ (0 : Int32) ((σ 0 12) - (σ 0 11)) ) (call_b hC.ts TC_J9_max_7cf53 TN_J9 TM_X9_157 hd_J9_max_7cf53 ⟨Nat.le_of_ble_eq_true rfl, Nat.le_of_ble_eq_true rfl⟩) TT_J9_max_7cf53 rfl rfl (Nat.le_of_ble_eq_true rfl) dX9_moveScale_18 ⟨Nat.le_of_ble_eq_true rfl, Nat.le_of_ble_eq_true rfl⟩) hS (fun v_13 H locs w_14 hR hS => ?_)
    have f_15 := w_14
    refine rputi hC hK hG hR hS (ct_bench G _ _) rfl uin_X9 tyX9 tyX9_ok nmX9 12 (by decide) TF_X9_77 rfl (Or.inl rfl) (Nat.le_of_ble_eq_true rfl) rfl (ct_bench G _ _) dX9_moveScale_21 (fun s_17 es_16 H locs hR hS => ?_)
    refine lv_goto (tgt := 44) hC.x hC.b dX9_moveScale_24 (by decide) ?_
    exact retv hC hK hR hS (⟨by subst es_16; (rfl), by subst es_16; (exact Fr.up Fr.rf rfl), by subst es_16; (dsimp only; intro j hj; exact up2_n hj), by subst es_16; (dsimp only; rw [up2_s]; omega)⟩) dX9_moveScale_44

abbrev po_X9_close (σ : SI) (τ : SL) : Int32 → SI × SL → Prop := fun v u => ((v = (-1)) ∧ (u.1 = σ) ∧ (u.2 = τ) ∧ (200 ≤ (σ 0 8).toInt)) ∨ (((σ 0 8).toInt < 200) ∧ (ClC σ u.1) ∧ ((u.1 0 8).toInt = (σ 0 8).toInt + 1) ∧ ((0 < (σ 0 12).toInt ∧ (u.1 0 12).toInt = max 0 ((σ 0 12).toInt - (σ 0 11).toInt)) ∨ ((σ 0 12).toInt ≤ 0 ∧ (u.1 0 12).toInt = min 0 ((σ 0 12).toInt + (σ 0 11).toInt))))
set_option maxRecDepth 100000 in
set_option maxHeartbeats 4000000 in
theorem c_X9_close (l : Launch) {G : Gx} {A : Nat → Prop} (hG : GOk G A) (σ : SI) (τ : SL) (hnow : 0 ≤ (σ 0 8).toInt ∧ (σ 0 8).toInt ≤ 200) (hof : -1000000 ≤ (σ 0 12).toInt ∧ (σ 0 12).toInt ≤ 1000000) (hpc : 0 ≤ (σ 0 11).toInt ∧ (σ 0 11).toInt ≤ 3599) : MI l G A 6 yX9_close cX9_close 2 (some .int) [.ref (G.2.1 0)] (σ, τ) (po_X9_close σ τ ) := by
  refine met_of (own := RX9) (by decide +kernel) rfl [(0, .ref (G.2.1 0))] rfl (Nat.le_of_ble_eq_true rfl) ?_
  intro p e s m args below meth c ls hC hK hR hl
  have hS : va_S A s.heap s.heap [] := va_S.rf
  refine lv_aload_n hC.x hC.b dX9_close_0 rfl (lv_at hl 0 rfl) ?_
  refine rget hC hK hR (ct_bench G _ _) rfl uin_X9 8 (by decide) TF_X9_65 rfl dX9_close_1 ?_
  refine lv_sipush (v := 200) hC.x hC.b dX9_close_4 (by decide) ?_
  refine bi_lt (tgt := 12) (a := (σ 0 8).toInt) (b := 200) hC.x hC.b rfl rfl dX9_close_7 (by decide) (fun c_1 => ?_) (fun c_1 => ?_)
  · skip
    refine lv_aload_n hC.x hC.b dX9_close_12 rfl (lv_at hl 0 rfl) ?_
    refine rget hC hK hR (ct_bench G _ _) rfl uin_X9 5 (by decide) TF_X9_53 rfl dX9_close_13 ?_
    refine lv_aload_n hC.x hC.b dX9_close_16 rfl (lv_at hl 0 rfl) ?_
    refine rget hC hK hR (ct_bench G _ _) rfl uin_X9 8 (by decide) TF_X9_65 rfl dX9_close_17 ?_
    refine lv_aload_n hC.x hC.b dX9_close_20 rfl (lv_at hl 0 rfl) ?_
    refine rget hC hK hR (ct_bench G _ _) rfl uin_X9 9 (by decide) TF_X9_68 rfl dX9_close_21 ?_
    refine lv_aload_n hC.x hC.b dX9_close_24 rfl (lv_at hl 0 rfl) ?_
    refine rget hC hK hR (ct_bench G _ _) rfl uin_X9 10 (by decide) TF_X9_71 rfl dX9_close_25 ?_
    refine goi (runV (As := [.int (σ 0 8), .int (σ 0 9), .int (σ 0 10)]) (rest := []) hC hK hR hl.1 (c_X1_closeHour l hG σ τ (σ 0 8) (σ 0 9) (σ 0 10) (by first | omega | assumption)) (call_b hC.ts TC_X1_closeHour TN_X1 TM_X9_194 hd_X1_closeHour ⟨Nat.le_of_ble_eq_true rfl, Nat.le_of_ble_eq_true rfl⟩) TI_X1_closeHour TS_X1_closeHour (ct_closing G _ _) rfl rfl rfl (Nat.le_of_ble_eq_true rfl) dX9_close_28 ⟨Nat.le_of_ble_eq_true rfl, Nat.le_of_ble_eq_true rfl⟩) hS (fun v_2 s_4 t_5 H locs w_3 hR hS => ?_)
    try dsimp only [po_X1_closeHour] at w_3
    have f_6 := w_3
    refine lv_istore_n (lv' := [(1, .int v_2), (0, .ref (G.2.1 0))]) hC.x hC.b dX9_close_31 rfl hl (by decide) rfl (fun ls hl => ?_)
    refine lv_aload_n hC.x hC.b dX9_close_32 rfl (lv_at hl 1 rfl) ?_
    have rd_7 : (s_4 0 12).toInt = (σ 0 12).toInt := congrArg Int32.toInt (show s_4 0 12 = σ 0 12 from congrFun (f_6.1 0 (by first | omega | (dsimp only; omega))) 12)
    have rd_8 : (s_4 0 11).toInt = (σ 0 11).toInt := congrArg Int32.toInt (show s_4 0 11 = σ 0 11 from congrFun (f_6.1 0 (by first | omega | (dsimp only; omega))) 11)
    refine gov (runV (As := []) (rest := []) hC hK hR hl.1 (c_X9_moveScale l hG s_4 t_5  (by omega) (by omega)) (call_b hC.ts TC_X9_moveScale TN_X9 TM_X9_197 hd_X9_moveScale ⟨Nat.le_of_ble_eq_true rfl, Nat.le_of_ble_eq_true rfl⟩) TI_X9_moveScale TS_X9_moveScale (ct_bench G _ _) rfl rfl rfl (Nat.le_of_ble_eq_true rfl) dX9_close_33 ⟨Nat.le_of_ble_eq_true rfl, Nat.le_of_ble_eq_true rfl⟩) hS (fun s_11 t_12 H locs w_10 hR hS => ?_)
    try dsimp only [po_X9_moveScale] at w_10
    obtain ⟨et_13, f_14, f_15, f_16⟩ := w_10
    rw [et_13] at hR
    refine lv_iload_n hC.x hC.b dX9_close_36 rfl (lv_at hl 0 rfl) ?_
    refine bz_le (tgt := 56) (a := v_2.toInt) (b := 0) hC.x hC.b rfl rfl dX9_close_37 (by decide) (fun c_17 => ?_) (fun c_17 => ?_)
    · skip
      refine lv_aload_n hC.x hC.b dX9_close_56 rfl (lv_at hl 1 rfl) ?_
      refine lv_dup hC.x hC.b dX9_close_57 rfl ?_
      refine rget hC hK hR (ct_bench G _ _) rfl uin_X9 8 (by decide) TF_X9_65 rfl dX9_close_58 ?_
      have rd_18 : (s_11 0 8).toInt = (σ 0 8).toInt := congrArg Int32.toInt (Eq.trans (show s_11 0 8 = s_4 0 8 from f_15 8 (by omega)) (show s_4 0 8 = σ 0 8 from congrFun (f_6.1 0 (by first | omega | (dsimp only; omega))) 8))
      refine lv_iconst (v := 1) hC.x hC.b dX9_close_61 (by decide) ?_
      refine lv_iadd hC.x hC.b dX9_close_62 ?_
      have pr_19 : ((s_11 0 8) + (1 : Int32)).toInt = ((s_11 0 8).toInt + 1) := addI rfl rfl (by omega) (by omega)
      refine rputi hC hK hG hR hS (ct_bench G _ _) rfl uin_X9 tyX9 tyX9_ok nmX9 8 (by decide) TF_X9_65 rfl (Or.inl rfl) (Nat.le_of_ble_eq_true rfl) rfl (ct_bench G _ _) dX9_close_63 (fun s_21 es_20 H locs hR hS => ?_)
      refine lv_iload_n hC.x hC.b dX9_close_66 rfl (lv_at hl 0 rfl) ?_
      have rd_22 : (s_21 0 8).toInt = ((s_11 0 8) + (1 : Int32)).toInt := congrArg Int32.toInt (show s_21 0 8 = ((s_11 0 8) + (1 : Int32)) from (by rw [es_20]; exact up2_s))
      have rd_23 : (s_21 0 12).toInt = (s_11 0 12).toInt := congrArg Int32.toInt (show s_21 0 12 = s_11 0 12 from (by rw [es_20]; exact up2_n (by omega)))
      exact reti hC hK hR hS (by first | exact Or.inl (⟨by subst es_20; (first | rfl | omega), by subst es_20; (first | rfl | assumption), by subst es_20; (rfl), by subst es_20; (first | omega | assumption)⟩) | exact Or.inr ((⟨by subst es_20; (first | omega | assumption), by subst es_20; (exact ClC.mk (by assumption) (by assumption) (by assumption) (by first | assumption | exact CF.rf)), by first | omega | (dsimp only; omega), by first | omega | (dsimp only; omega)⟩)) | exact False.elim (by omega)) dX9_close_67
    · skip
      refine lv_aload_n hC.x hC.b dX9_close_40 rfl (lv_at hl 1 rfl) ?_
      refine rget hC hK hR (ct_bench G _ _) rfl uin_X9 1 (by decide) TF_X9_19 rfl dX9_close_41 ?_
      refine lv_iconst (v := 4) hC.x hC.b dX9_close_44 (by decide) ?_
      refine lv_aload_n hC.x hC.b dX9_close_45 rfl (lv_at hl 1 rfl) ?_
      refine rget hC hK hR (ct_bench G _ _) rfl uin_X9 8 (by decide) TF_X9_65 rfl dX9_close_46 ?_
      have rd_24 : (s_11 0 8).toInt = (σ 0 8).toInt := congrArg Int32.toInt (Eq.trans (show s_11 0 8 = s_4 0 8 from f_15 8 (by omega)) (show s_4 0 8 = σ 0 8 from congrFun (f_6.1 0 (by first | omega | (dsimp only; omega))) 8))
      refine lv_aload_n hC.x hC.b dX9_close_49 rfl (lv_at hl 1 rfl) ?_
      refine rget hC hK hR (ct_bench G _ _) rfl uin_X9 12 (by decide) TF_X9_77 rfl dX9_close_50 ?_
      have av_25 : (4 : Int32).toInt = 4 := by decide
      refine gov (runV (As := [.int (4 : Int32), .int (s_11 0 8), .int (s_11 0 12)]) (rest := []) hC hK hR hl.1 (c_X7_tellPaper l hG s_11 t_5 (4 : Int32) (s_11 0 8) (s_11 0 12) ) (call_b hC.ts TC_X7_tellPaper TN_X7 TM_X9_200 hd_X7_tellPaper ⟨Nat.le_of_ble_eq_true rfl, Nat.le_of_ble_eq_true rfl⟩) TI_X7_tellPaper TS_X7_tellPaper (ct_told G _ _) rfl rfl rfl (Nat.le_of_ble_eq_true rfl) dX9_close_53 ⟨Nat.le_of_ble_eq_true rfl, Nat.le_of_ble_eq_true rfl⟩) hS (fun s_28 t_29 H locs w_27 hR hS => ?_)
      try dsimp only [po_X7_tellPaper] at w_27
      have f_30 := w_27
      refine lv_aload_n hC.x hC.b dX9_close_56 rfl (lv_at hl 1 rfl) ?_
      refine lv_dup hC.x hC.b dX9_close_57 rfl ?_
      refine rget hC hK hR (ct_bench G _ _) rfl uin_X9 8 (by decide) TF_X9_65 rfl dX9_close_58 ?_
      have rd_31 : (s_28 0 8).toInt = (σ 0 8).toInt := congrArg Int32.toInt (Eq.trans (show s_28 0 8 = s_11 0 8 from congrFun (f_30.1 0 (by first | omega | (dsimp only; omega))) 8) (Eq.trans (show s_11 0 8 = s_4 0 8 from f_15 8 (by omega)) (show s_4 0 8 = σ 0 8 from congrFun (f_6.1 0 (by first | omega | (dsimp only; omega))) 8)))
      refine lv_iconst (v := 1) hC.x hC.b dX9_close_61 (by decide) ?_
      refine lv_iadd hC.x hC.b dX9_close_62 ?_
      have pr_32 : ((s_28 0 8) + (1 : Int32)).toInt = ((s_28 0 8).toInt + 1) := addI rfl rfl (by omega) (by omega)
      refine rputi hC hK hG hR hS (ct_bench G _ _) rfl uin_X9 tyX9 tyX9_ok nmX9 8 (by decide) TF_X9_65 rfl (Or.inl rfl) (Nat.le_of_ble_eq_true rfl) rfl (ct_bench G _ _) dX9_close_63 (fun s_34 es_33 H locs hR hS => ?_)
      refine lv_iload_n hC.x hC.b dX9_close_66 rfl (lv_at hl 0 rfl) ?_
      have rd_35 : (s_34 0 8).toInt = ((s_28 0 8) + (1 : Int32)).toInt := congrArg Int32.toInt (show s_34 0 8 = ((s_28 0 8) + (1 : Int32)) from (by rw [es_33]; exact up2_s))
      have rd_36 : (s_34 0 12).toInt = (s_11 0 12).toInt := congrArg Int32.toInt (Eq.trans (show s_34 0 12 = s_28 0 12 from (by rw [es_33]; exact up2_n (by omega))) (show s_28 0 12 = s_11 0 12 from congrFun (f_30.1 0 (by first | omega | (dsimp only; omega))) 12))
      exact reti hC hK hR hS (by first | exact Or.inl (⟨by subst es_33; (first | rfl | omega), by subst es_33; (first | rfl | assumption), by subst es_33; (rfl), by subst es_33; (first | omega | assumption)⟩) | exact Or.inr ((⟨by subst es_33; (first | omega | assumption), by subst es_33; (exact ClC.mk (by assumption) (by assumption) (by assumption) (by first | assumption | exact CF.rf)), by first | omega | (dsimp only; omega), by first | omega | (dsimp only; omega)⟩)) | exact False.elim (by omega)) dX9_close_67
  · skip
    refine lv_iconst (v := (-1)) hC.x hC.b dX9_close_10 (by decide) ?_
    exact reti hC hK hR hS (by first | exact Or.inl (⟨by first | rfl | omega, by first | rfl | assumption, by rfl, by first | omega | assumption⟩) | exact Or.inr ((⟨by first | omega | assumption, by exact ClC.mk (by assumption) (by assumption) (by assumption) (by first | assumption | exact CF.rf), by first | omega | (dsimp only; omega), by first | omega | (dsimp only; omega)⟩)) | exact False.elim (by omega)) dX9_close_11

abbrev po_X9_hour (σ : SI) (τ : SL) : Int32 → SI × SL → Prop := fun v u => u = (σ, τ) ∧ (((v = σ 0 8)))
set_option maxRecDepth 100000 in
set_option maxHeartbeats 4000000 in
theorem c_X9_hour (l : Launch) {G : Gx} {A : Nat → Prop} (hG : GOk G A) (σ : SI) (τ : SL) : MI l G A 0 yX9_hour cX9_hour 1 (some .int) [.ref (G.2.1 0)] (σ, τ) (po_X9_hour σ τ ) := by
  refine met_of (own := RX9) (by decide +kernel) rfl [(0, .ref (G.2.1 0))] rfl (Nat.le_of_ble_eq_true rfl) ?_
  intro p e s m args below meth c ls hC hK hR hl
  have hS : va_S A s.heap s.heap [] := va_S.rf
  refine lv_aload_n hC.x hC.b dX9_hour_0 rfl (lv_at hl 0 rfl) ?_
  refine rget hC hK hR (ct_bench G _ _) rfl uin_X9 8 (by decide) TF_X9_65 rfl dX9_hour_1 ?_
  exact reti hC hK hR hS ⟨rfl, (by first | rfl | omega)⟩ dX9_hour_4

abbrev po_X9_clock (σ : SI) (τ : SL) (pl : Int32) (q : Nat) (wa : Int32) : Int32 → SI × SL → Prop := fun v u => u = (σ, τ) ∧ (True)
set_option maxRecDepth 100000 in
set_option maxHeartbeats 4000000 in
theorem c_X9_clock (l : Launch) {G : Gx} {A : Nat → Prop} (hG : GOk G A) (σ : SI) (τ : SL) (pl : Int32) (q : Nat) (hp_q : pl.toInt.toNat = q) (wa : Int32) : MI l G A 3 yX9_clock cX9_clock 4 (some .int) [.ref (G.2.1 0), .int pl, .int wa] (σ, τ) (po_X9_clock σ τ pl q wa) := by
  refine met_of (own := RX9) (by decide +kernel) rfl [(0, .ref (G.2.1 0)), (1, .int pl), (2, .int wa)] rfl (Nat.le_of_ble_eq_true rfl) ?_
  intro p e s m args below meth c ls hC hK hR hl
  have hS : va_S A s.heap s.heap [] := va_S.rf
  refine lv_aload_n hC.x hC.b dX9_clock_0 rfl (lv_at hl 0 rfl) ?_
  refine rget hC hK hR (ct_bench G _ _) rfl uin_X9 0 (by decide) TF_X9_10 rfl dX9_clock_1 ?_
  refine lv_iload_n hC.x hC.b dX9_clock_4 rfl (lv_at hl 1 rfl) ?_
  refine goqp (runV (As := [.int pl]) (rest := []) hC hK hR hl.1 (c_X5_clockAt l hG σ τ pl q (by first | rfl | (rw [show pl.toInt = pl.toInt from rfl]; done) | (rw [show pl.toInt = pl.toInt from rfl]; exact hp_q)) ) (call_b hC.ts TC_X5_clockAt TN_X5 TM_X9_169 hd_X5_clockAt ⟨Nat.le_of_ble_eq_true rfl, Nat.le_of_ble_eq_true rfl⟩) TI_X5_clockAt TS_X5_clockAt (ct_shelf G _ _) rfl rfl rfl (Nat.le_of_ble_eq_true rfl) dX9_clock_5 ⟨Nat.le_of_ble_eq_true rfl, Nat.le_of_ble_eq_true rfl⟩) hS (fun v_1 H locs w_2 hR hS => ?_)
  rcases w_2 with ⟨rfl, f_3⟩ | ⟨rfl, f_4, f_5, f_6, f_7⟩
  · skip
    refine lv_astore_nN (lv' := [(3, .null), (0, .ref (G.2.1 0)), (1, .int pl), (2, .int wa)]) hC.x hC.b dX9_clock_8 rfl hl (by decide) rfl (fun ls hl => ?_)
    refine lv_aload_nN hC.x hC.b dX9_clock_9 rfl (lv_at hl 0 rfl) ?_
    refine lv_ifnonnullN hC.x hC.b dX9_clock_10 ?_
    refine lv_aload_n hC.x hC.b dX9_clock_13 rfl (lv_at hl 1 rfl) ?_
    refine lv_iload_n hC.x hC.b dX9_clock_14 rfl (lv_at hl 2 rfl) ?_
    refine goip (runV (As := [.int pl]) (rest := []) hC hK hR hl.1 (c_X9_refusalAt l hG σ τ pl q (by first | rfl | (rw [show pl.toInt = pl.toInt from rfl]; done) | (rw [show pl.toInt = pl.toInt from rfl]; exact hp_q)) ) (call_b hC.ts TC_X9_refusalAt TN_X9 TM_X9_116 hd_X9_refusalAt ⟨Nat.le_of_ble_eq_true rfl, Nat.le_of_ble_eq_true rfl⟩) TI_X9_refusalAt TS_X9_refusalAt (ct_bench G _ _) rfl rfl rfl (Nat.le_of_ble_eq_true rfl) dX9_clock_15 ⟨Nat.le_of_ble_eq_true rfl, Nat.le_of_ble_eq_true rfl⟩) hS (fun v_8 H locs w_9 hR hS => ?_)
    rcases w_9 with ⟨rfl, f_10⟩ | ⟨rfl, f_11, f_12, f_13⟩
    · skip
      exact reti hC hK hR hS ⟨rfl, (trivial)⟩ dX9_clock_18
    · skip
      exact reti hC hK hR hS ⟨rfl, (trivial)⟩ dX9_clock_18
  · skip
    have hq_14 : q < 24 := by omega
    refine lv_astore_n (lv' := [(3, .ref (G.2.1 (80 + q))), (0, .ref (G.2.1 0)), (1, .int pl), (2, .int wa)]) hC.x hC.b dX9_clock_8 rfl hl (by decide) rfl (fun ls hl => ?_)
    refine lv_aload_n hC.x hC.b dX9_clock_9 rfl (lv_at hl 0 rfl) ?_
    refine lv_ifnonnull (tgt := 19) hC.x hC.b dX9_clock_10 (by decide) ?_
    refine lv_iload_n hC.x hC.b dX9_clock_19 rfl (lv_at hl 3 rfl) ?_
    have sw_15 : wa.toInt = 0 ∨ wa.toInt = 1 ∨ wa.toInt = 2 ∨ wa.toInt = 3 ∨ wa.toInt = 4 ∨ wa.toInt = 5 ∨ wa.toInt = 6 ∨ wa.toInt = 7 ∨ wa.toInt = 8 ∨ (wa.toInt < 0 ∨ 8 < wa.toInt) := by omega
    rcases sw_15 with sw_15 | sw_15 | sw_15 | sw_15 | sw_15 | sw_15 | sw_15 | sw_15 | sw_15 | sw_15
    · skip
      refine lv_tableIn (tgt := 72) hC.x hC.b dX9_clock_20 (by omega) (by omega) (by rw [sw_15]; rfl) (by decide) ?_
      refine lv_aload_n hC.x hC.b dX9_clock_72 rfl (lv_at hl 0 rfl) ?_
      refine goip (runV (As := []) (rest := []) hC hK hR hl.1 (c_X0_isTaken l hG σ τ q hq_14 ) (call_b hC.ts TC_X0_isTaken TN_X0 TM_X9_204 hd_X0_isTaken ⟨Nat.le_of_ble_eq_true rfl, Nat.le_of_ble_eq_true rfl⟩) TI_X0_isTaken TS_X0_isTaken (ct_clock hq_14 G _ _) rfl rfl rfl (Nat.le_of_ble_eq_true rfl) dX9_clock_73 ⟨Nat.le_of_ble_eq_true rfl, Nat.le_of_ble_eq_true rfl⟩) hS (fun v_16 H locs w_17 hR hS => ?_)
      rcases w_17 with ⟨rfl, f_18, f_19⟩ | ⟨rfl, f_20⟩
      · skip
        refine bz_eq (tgt := 83) (a := 1) (b := 0) hC.x hC.b rfl rfl dX9_clock_76 (by decide) (fun c_21 => absurd c_21 (by decide)) (fun _ => ?_)
        refine lv_iconst (v := 1) hC.x hC.b dX9_clock_79 (by decide) ?_
        refine lv_goto (tgt := 84) hC.x hC.b dX9_clock_80 (by decide) ?_
        exact reti hC hK hR hS ⟨rfl, (trivial)⟩ dX9_clock_84
      · skip
        refine bz_eq (tgt := 83) (a := 0) (b := 0) hC.x hC.b rfl rfl dX9_clock_76 (by decide) (fun _ => ?_) (fun c_22 => absurd c_22 (by decide))
        refine lv_iconst (v := 0) hC.x hC.b dX9_clock_83 (by decide) ?_
        exact reti hC hK hR hS ⟨rfl, (trivial)⟩ dX9_clock_84
    · skip
      refine lv_tableIn (tgt := 85) hC.x hC.b dX9_clock_20 (by omega) (by omega) (by rw [sw_15]; rfl) (by decide) ?_
      refine lv_aload_n hC.x hC.b dX9_clock_85 rfl (lv_at hl 0 rfl) ?_
      refine rget hC hK hR (ct_clock hq_14 G _ _) rfl uin_X0 7 (by decide) TF_X9_207 rfl dX9_clock_86 ?_
      refine bz_eq (tgt := 96) (a := (σ (80 + q) 7).toInt) (b := 0) hC.x hC.b rfl rfl dX9_clock_89 (by decide) (fun c_23 => ?_) (fun c_23 => ?_)
      · skip
        refine lv_iconst (v := 0) hC.x hC.b dX9_clock_96 (by decide) ?_
        exact reti hC hK hR hS ⟨rfl, (trivial)⟩ dX9_clock_97
      · skip
        refine lv_iconst (v := 1) hC.x hC.b dX9_clock_92 (by decide) ?_
        refine lv_goto (tgt := 97) hC.x hC.b dX9_clock_93 (by decide) ?_
        exact reti hC hK hR hS ⟨rfl, (trivial)⟩ dX9_clock_97
    · skip
      refine lv_tableIn (tgt := 98) hC.x hC.b dX9_clock_20 (by omega) (by omega) (by rw [sw_15]; rfl) (by decide) ?_
      refine lv_aload_n hC.x hC.b dX9_clock_98 rfl (lv_at hl 0 rfl) ?_
      refine rget hC hK hR (ct_clock hq_14 G _ _) rfl uin_X0 9 (by decide) TF_X9_210 rfl dX9_clock_99 ?_
      refine lv_aload_n hC.x hC.b dX9_clock_102 rfl (lv_at hl 1 rfl) ?_
      refine rget hC hK hR (ct_bench G _ _) rfl uin_X9 8 (by decide) TF_X9_65 rfl dX9_clock_103 ?_
      refine lv_iconst (v := 1) hC.x hC.b dX9_clock_106 (by decide) ?_
      refine lv_isub hC.x hC.b dX9_clock_107 ?_
      refine bi_ne (tgt := 115) (a := (σ (80 + q) 9).toInt) (b := ((σ 0 8) - (1 : Int32)).toInt) hC.x hC.b rfl rfl dX9_clock_108 (by decide) (fun c_24 => ?_) (fun c_24 => ?_)
      · skip
        refine lv_iconst (v := 0) hC.x hC.b dX9_clock_115 (by decide) ?_
        exact reti hC hK hR hS ⟨rfl, (trivial)⟩ dX9_clock_116
      · skip
        refine lv_iconst (v := 1) hC.x hC.b dX9_clock_111 (by decide) ?_
        refine lv_goto (tgt := 116) hC.x hC.b dX9_clock_112 (by decide) ?_
        exact reti hC hK hR hS ⟨rfl, (trivial)⟩ dX9_clock_116
    · skip
      refine lv_tableIn (tgt := 117) hC.x hC.b dX9_clock_20 (by omega) (by omega) (by rw [sw_15]; rfl) (by decide) ?_
      refine lv_aload_n hC.x hC.b dX9_clock_117 rfl (lv_at hl 1 rfl) ?_
      refine rget hC hK hR (ct_bench G _ _) rfl uin_X9 4 (by decide) TF_X9_44 rfl dX9_clock_118 ?_
      refine lv_aload_n hC.x hC.b dX9_clock_121 rfl (lv_at hl 0 rfl) ?_
      refine lv_aload_n hC.x hC.b dX9_clock_122 rfl (lv_at hl 1 rfl) ?_
      refine rget hC hK hR (ct_bench G _ _) rfl uin_X9 8 (by decide) TF_X9_65 rfl dX9_clock_123 ?_
      refine goip (runV (As := [.ref (G.2.1 (80 + q)), .int (σ 0 8)]) (rest := []) hC hK hR hl.1 (c_X2_countXs l hG σ τ q hq_14 (σ 0 8) ) (call_b hC.ts TC_X2_countXs TN_X2 TM_X9_213 hd_X2_countXs ⟨Nat.le_of_ble_eq_true rfl, Nat.le_of_ble_eq_true rfl⟩) TI_X2_countXs TS_X2_countXs (ct_fore G _ _) rfl rfl rfl (Nat.le_of_ble_eq_true rfl) dX9_clock_126 ⟨Nat.le_of_ble_eq_true rfl, Nat.le_of_ble_eq_true rfl⟩) hS (fun v_25 H locs w_26 hR hS => ?_)
      exact reti hC hK hR hS ⟨rfl, (trivial)⟩ dX9_clock_129
    · skip
      refine lv_tableIn (tgt := 130) hC.x hC.b dX9_clock_20 (by omega) (by omega) (by rw [sw_15]; rfl) (by decide) ?_
      refine lv_aload_n hC.x hC.b dX9_clock_130 rfl (lv_at hl 0 rfl) ?_
      refine rget hC hK hR (ct_clock hq_14 G _ _) rfl uin_X0 4 (by decide) TF_X9_190 rfl dX9_clock_131 ?_
      exact reti hC hK hR hS ⟨rfl, (trivial)⟩ dX9_clock_134
    · skip
      refine lv_tableIn (tgt := 135) hC.x hC.b dX9_clock_20 (by omega) (by omega) (by rw [sw_15]; rfl) (by decide) ?_
      refine lv_aload_n hC.x hC.b dX9_clock_135 rfl (lv_at hl 0 rfl) ?_
      refine rget hC hK hR (ct_clock hq_14 G _ _) rfl uin_X0 2 (by decide) TF_X9_217 rfl dX9_clock_136 ?_
      exact reti hC hK hR hS ⟨rfl, (trivial)⟩ dX9_clock_139
    · skip
      refine lv_tableIn (tgt := 140) hC.x hC.b dX9_clock_20 (by omega) (by omega) (by rw [sw_15]; rfl) (by decide) ?_
      refine lv_aload_n hC.x hC.b dX9_clock_140 rfl (lv_at hl 0 rfl) ?_
      refine rget hC hK hR (ct_clock hq_14 G _ _) rfl uin_X0 3 (by decide) TF_X9_220 rfl dX9_clock_141 ?_
      exact reti hC hK hR hS ⟨rfl, (trivial)⟩ dX9_clock_144
    · skip
      refine lv_tableIn (tgt := 145) hC.x hC.b dX9_clock_20 (by omega) (by omega) (by rw [sw_15]; rfl) (by decide) ?_
      refine lv_aload_n hC.x hC.b dX9_clock_145 rfl (lv_at hl 0 rfl) ?_
      refine rget hC hK hR (ct_clock hq_14 G _ _) rfl uin_X0 10 (by decide) TF_X9_223 rfl dX9_clock_146 ?_
      exact reti hC hK hR hS ⟨rfl, (trivial)⟩ dX9_clock_149
    · skip
      refine lv_tableIn (tgt := 150) hC.x hC.b dX9_clock_20 (by omega) (by omega) (by rw [sw_15]; rfl) (by decide) ?_
      refine lv_aload_n hC.x hC.b dX9_clock_150 rfl (lv_at hl 0 rfl) ?_
      refine rget hC hK hR (ct_clock hq_14 G _ _) rfl uin_X0 11 (by decide) TF_X9_225 rfl dX9_clock_151 ?_
      exact reti hC hK hR hS ⟨rfl, (trivial)⟩ dX9_clock_154
    · skip
      refine lv_tableOut (tgt := 155) hC.x hC.b dX9_clock_20 (by omega) (by decide) ?_
      refine lv_iconst (v := (-1)) hC.x hC.b dX9_clock_155 (by decide) ?_
      exact reti hC hK hR hS ⟨rfl, (trivial)⟩ dX9_clock_156

abbrev po_X9_foretell (σ : SI) (τ : SL) (pl : Int32) (q : Nat) : Int32 → SI × SL → Prop := fun v u => ((Fr (fun k => 18 ≤ k ∧ k ≤ 20) σ u.1))
set_option maxRecDepth 100000 in
set_option maxHeartbeats 4000000 in
theorem c_X9_foretell (l : Launch) {G : Gx} {A : Nat → Prop} (hG : GOk G A) (σ : SI) (τ : SL) (pl : Int32) (q : Nat) (hp_q : pl.toInt.toNat = q) : MI l G A 4 yX9_foretell cX9_foretell 3 (some .int) [.ref (G.2.1 0), .int pl] (σ, τ) (po_X9_foretell σ τ pl q) := by
  refine met_of (own := RX9) (by decide +kernel) rfl [(0, .ref (G.2.1 0)), (1, .int pl)] rfl (Nat.le_of_ble_eq_true rfl) ?_
  intro p e s m args below meth c ls hC hK hR hl
  have hS : va_S A s.heap s.heap [] := va_S.rf
  refine lv_aload_n hC.x hC.b dX9_foretell_0 rfl (lv_at hl 0 rfl) ?_
  refine rget hC hK hR (ct_bench G _ _) rfl uin_X9 0 (by decide) TF_X9_10 rfl dX9_foretell_1 ?_
  refine lv_iload_n hC.x hC.b dX9_foretell_4 rfl (lv_at hl 1 rfl) ?_
  refine goqp (runV (As := [.int pl]) (rest := []) hC hK hR hl.1 (c_X5_clockAt l hG σ τ pl q (by first | rfl | (rw [show pl.toInt = pl.toInt from rfl]; done) | (rw [show pl.toInt = pl.toInt from rfl]; exact hp_q)) ) (call_b hC.ts TC_X5_clockAt TN_X5 TM_X9_169 hd_X5_clockAt ⟨Nat.le_of_ble_eq_true rfl, Nat.le_of_ble_eq_true rfl⟩) TI_X5_clockAt TS_X5_clockAt (ct_shelf G _ _) rfl rfl rfl (Nat.le_of_ble_eq_true rfl) dX9_foretell_5 ⟨Nat.le_of_ble_eq_true rfl, Nat.le_of_ble_eq_true rfl⟩) hS (fun v_1 H locs w_2 hR hS => ?_)
  rcases w_2 with ⟨rfl, f_3⟩ | ⟨rfl, f_4, f_5, f_6, f_7⟩
  · skip
    refine lv_astore_nN (lv' := [(2, .null), (0, .ref (G.2.1 0)), (1, .int pl)]) hC.x hC.b dX9_foretell_8 rfl hl (by decide) rfl (fun ls hl => ?_)
    refine lv_aload_nN hC.x hC.b dX9_foretell_9 rfl (lv_at hl 0 rfl) ?_
    refine lv_ifnonnullN hC.x hC.b dX9_foretell_10 ?_
    refine lv_aload_n hC.x hC.b dX9_foretell_13 rfl (lv_at hl 1 rfl) ?_
    refine lv_iload_n hC.x hC.b dX9_foretell_14 rfl (lv_at hl 2 rfl) ?_
    refine goip (runV (As := [.int pl]) (rest := []) hC hK hR hl.1 (c_X9_refusalAt l hG σ τ pl q (by first | rfl | (rw [show pl.toInt = pl.toInt from rfl]; done) | (rw [show pl.toInt = pl.toInt from rfl]; exact hp_q)) ) (call_b hC.ts TC_X9_refusalAt TN_X9 TM_X9_116 hd_X9_refusalAt ⟨Nat.le_of_ble_eq_true rfl, Nat.le_of_ble_eq_true rfl⟩) TI_X9_refusalAt TS_X9_refusalAt (ct_bench G _ _) rfl rfl rfl (Nat.le_of_ble_eq_true rfl) dX9_foretell_15 ⟨Nat.le_of_ble_eq_true rfl, Nat.le_of_ble_eq_true rfl⟩) hS (fun v_8 H locs w_9 hR hS => ?_)
    rcases w_9 with ⟨rfl, f_10⟩ | ⟨rfl, f_11, f_12, f_13⟩
    · skip
      refine lv_goto (tgt := 33) hC.x hC.b dX9_foretell_18 (by decide) ?_
      exact reti hC hK hR hS (by exact Fr.rf) dX9_foretell_33
    · skip
      refine lv_goto (tgt := 33) hC.x hC.b dX9_foretell_18 (by decide) ?_
      exact reti hC hK hR hS (by exact Fr.rf) dX9_foretell_33
  · skip
    have hq_14 : q < 24 := by omega
    refine lv_astore_n (lv' := [(2, .ref (G.2.1 (80 + q))), (0, .ref (G.2.1 0)), (1, .int pl)]) hC.x hC.b dX9_foretell_8 rfl hl (by decide) rfl (fun ls hl => ?_)
    refine lv_aload_n hC.x hC.b dX9_foretell_9 rfl (lv_at hl 0 rfl) ?_
    refine lv_ifnonnull (tgt := 21) hC.x hC.b dX9_foretell_10 (by decide) ?_
    refine lv_aload_n hC.x hC.b dX9_foretell_21 rfl (lv_at hl 1 rfl) ?_
    refine rget hC hK hR (ct_bench G _ _) rfl uin_X9 4 (by decide) TF_X9_44 rfl dX9_foretell_22 ?_
    refine lv_aload_n hC.x hC.b dX9_foretell_25 rfl (lv_at hl 0 rfl) ?_
    refine lv_aload_n hC.x hC.b dX9_foretell_26 rfl (lv_at hl 1 rfl) ?_
    refine rget hC hK hR (ct_bench G _ _) rfl uin_X9 8 (by decide) TF_X9_65 rfl dX9_foretell_27 ?_
    refine goi (runV (As := [.ref (G.2.1 (80 + q)), .int (σ 0 8)]) (rest := []) hC hK hR hl.1 (c_X2_foretoldOf l hG σ τ q hq_14 (σ 0 8) ) (call_b hC.ts TC_X2_foretoldOf TN_X2 TM_X9_228 hd_X2_foretoldOf ⟨Nat.le_of_ble_eq_true rfl, Nat.le_of_ble_eq_true rfl⟩) TI_X2_foretoldOf TS_X2_foretoldOf (ct_fore G _ _) rfl rfl rfl (Nat.le_of_ble_eq_true rfl) dX9_foretell_30 ⟨Nat.le_of_ble_eq_true rfl, Nat.le_of_ble_eq_true rfl⟩) hS (fun v_15 s_17 t_18 H locs w_16 hR hS => ?_)
    try dsimp only [po_X2_foretoldOf] at w_16
    have f_19 := w_16
    exact reti hC hK hR hS (by exact (Fr.tr Fr.rf f_19)) dX9_foretell_33

abbrev po_X9_slope (σ : SI) (τ : SL) (pl : Int32) (q : Nat) (wa : Int32) : Int32 → SI × SL → Prop := fun v u => ((Fr (fun k => 18 ≤ k ∧ k ≤ 20) σ u.1))
set_option maxRecDepth 100000 in
set_option maxHeartbeats 4000000 in
theorem c_X9_slope (l : Launch) {G : Gx} {A : Nat → Prop} (hG : GOk G A) (σ : SI) (τ : SL) (pl : Int32) (q : Nat) (hp_q : pl.toInt.toNat = q) (wa : Int32) : MI l G A 3 yX9_slope cX9_slope 7 (some .int) [.ref (G.2.1 0), .int pl, .int wa] (σ, τ) (po_X9_slope σ τ pl q wa) := by
  refine met_of (own := RX9) (by decide +kernel) rfl [(0, .ref (G.2.1 0)), (1, .int pl), (2, .int wa)] rfl (Nat.le_of_ble_eq_true rfl) ?_
  intro p e s m args below meth c ls hC hK hR hl
  have hS : va_S A s.heap s.heap [] := va_S.rf
  refine lv_aload_n hC.x hC.b dX9_slope_0 rfl (lv_at hl 0 rfl) ?_
  refine rget hC hK hR (ct_bench G _ _) rfl uin_X9 0 (by decide) TF_X9_10 rfl dX9_slope_1 ?_
  refine lv_iload_n hC.x hC.b dX9_slope_4 rfl (lv_at hl 1 rfl) ?_
  refine goqp (runV (As := [.int pl]) (rest := []) hC hK hR hl.1 (c_X5_clockAt l hG σ τ pl q (by first | rfl | (rw [show pl.toInt = pl.toInt from rfl]; done) | (rw [show pl.toInt = pl.toInt from rfl]; exact hp_q)) ) (call_b hC.ts TC_X5_clockAt TN_X5 TM_X9_169 hd_X5_clockAt ⟨Nat.le_of_ble_eq_true rfl, Nat.le_of_ble_eq_true rfl⟩) TI_X5_clockAt TS_X5_clockAt (ct_shelf G _ _) rfl rfl rfl (Nat.le_of_ble_eq_true rfl) dX9_slope_5 ⟨Nat.le_of_ble_eq_true rfl, Nat.le_of_ble_eq_true rfl⟩) hS (fun v_1 H locs w_2 hR hS => ?_)
  rcases w_2 with ⟨rfl, f_3⟩ | ⟨rfl, f_4, f_5, f_6, f_7⟩
  · skip
    refine lv_astore_nN (lv' := [(3, .null), (0, .ref (G.2.1 0)), (1, .int pl), (2, .int wa)]) hC.x hC.b dX9_slope_8 rfl hl (by decide) rfl (fun ls hl => ?_)
    refine lv_aload_nN hC.x hC.b dX9_slope_9 rfl (lv_at hl 0 rfl) ?_
    refine lv_ifnonnullN hC.x hC.b dX9_slope_10 ?_
    refine lv_aload_n hC.x hC.b dX9_slope_13 rfl (lv_at hl 1 rfl) ?_
    refine lv_iload_n hC.x hC.b dX9_slope_14 rfl (lv_at hl 2 rfl) ?_
    refine goip (runV (As := [.int pl]) (rest := []) hC hK hR hl.1 (c_X9_refusalAt l hG σ τ pl q (by first | rfl | (rw [show pl.toInt = pl.toInt from rfl]; done) | (rw [show pl.toInt = pl.toInt from rfl]; exact hp_q)) ) (call_b hC.ts TC_X9_refusalAt TN_X9 TM_X9_116 hd_X9_refusalAt ⟨Nat.le_of_ble_eq_true rfl, Nat.le_of_ble_eq_true rfl⟩) TI_X9_refusalAt TS_X9_refusalAt (ct_bench G _ _) rfl rfl rfl (Nat.le_of_ble_eq_true rfl) dX9_slope_15 ⟨Nat.le_of_ble_eq_true rfl, Nat.le_of_ble_eq_true rfl⟩) hS (fun v_8 H locs w_9 hR hS => ?_)
    rcases w_9 with ⟨rfl, f_10⟩ | ⟨rfl, f_11, f_12, f_13⟩
    · skip
      exact reti hC hK hR hS (by exact Fr.rf) dX9_slope_18
    · skip
      exact reti hC hK hR hS (by exact Fr.rf) dX9_slope_18
  · skip
    have hq_14 : q < 24 := by omega
    refine lv_astore_n (lv' := [(3, .ref (G.2.1 (80 + q))), (0, .ref (G.2.1 0)), (1, .int pl), (2, .int wa)]) hC.x hC.b dX9_slope_8 rfl hl (by decide) rfl (fun ls hl => ?_)
    refine lv_aload_n hC.x hC.b dX9_slope_9 rfl (lv_at hl 0 rfl) ?_
    refine lv_ifnonnull (tgt := 19) hC.x hC.b dX9_slope_10 (by decide) ?_
    refine lv_iload_n hC.x hC.b dX9_slope_19 rfl (lv_at hl 3 rfl) ?_
    refine bz_eq (tgt := 30) (a := wa.toInt) (b := 0) hC.x hC.b rfl rfl dX9_slope_20 (by decide) (fun c_15 => ?_) (fun c_15 => ?_)
    · skip
      refine lv_aload_n hC.x hC.b dX9_slope_30 rfl (lv_at hl 1 rfl) ?_
      refine rget hC hK hR (ct_bench G _ _) rfl uin_X9 4 (by decide) TF_X9_44 rfl dX9_slope_31 ?_
      refine lv_aload_n hC.x hC.b dX9_slope_34 rfl (lv_at hl 0 rfl) ?_
      refine lv_aload_n hC.x hC.b dX9_slope_35 rfl (lv_at hl 1 rfl) ?_
      refine rget hC hK hR (ct_bench G _ _) rfl uin_X9 8 (by decide) TF_X9_65 rfl dX9_slope_36 ?_
      refine goq (runV (As := [.ref (G.2.1 (80 + q)), .int (σ 0 8)]) (rest := []) hC hK hR hl.1 (c_X2_lineOf l hG σ τ q hq_14 (σ 0 8) ) (call_b hC.ts TC_X2_lineOf TN_X2 TM_X9_231 hd_X2_lineOf ⟨Nat.le_of_ble_eq_true rfl, Nat.le_of_ble_eq_true rfl⟩) TI_X2_lineOf TS_X2_lineOf (ct_fore G _ _) rfl rfl rfl (Nat.le_of_ble_eq_true rfl) dX9_slope_39 ⟨Nat.le_of_ble_eq_true rfl, Nat.le_of_ble_eq_true rfl⟩) hS (fun v_16 s_18 t_19 H locs w_17 hR hS => ?_)
      try dsimp only [po_X2_lineOf] at w_17
      rcases w_17 with ⟨rfl, f_20⟩ | ⟨rfl, f_21⟩
      · skip
        refine lv_astore (lv' := [(4, .ref (G.2.1 19)), (3, .ref (G.2.1 (80 + q))), (0, .ref (G.2.1 0)), (1, .int pl), (2, .int wa)]) hC.x hC.b dX9_slope_42 hl (by decide) rfl (fun ls hl => ?_)
        refine lv_aload hC.x hC.b dX9_slope_44 (lv_at hl 0 rfl) ?_
        refine goip (runV (As := []) (rest := []) hC hK hR hl.1 (c_X3_count l hG s_18 t_19 19 (by decide) ) (call_b hC.ts TC_X3_count TN_X3 TM_X9_235 hd_X3_count ⟨Nat.le_of_ble_eq_true rfl, Nat.le_of_ble_eq_true rfl⟩) TI_X3_count TS_X3_count (ct_xs G _ _) rfl rfl rfl (Nat.le_of_ble_eq_true rfl) dX9_slope_46 ⟨Nat.le_of_ble_eq_true rfl, Nat.le_of_ble_eq_true rfl⟩) hS (fun v_22 H locs w_23 hR hS => ?_)
        subst w_23
        refine bz_ne (tgt := 55) (a := (s_18 19 0).toInt) (b := 0) hC.x hC.b rfl rfl dX9_slope_49 (by decide) (fun c_24 => ?_) (fun c_24 => ?_)
        · skip
          refine lv_iload_n hC.x hC.b dX9_slope_55 rfl (lv_at hl 4 rfl) ?_
          refine bz_ne (tgt := 67) (a := wa.toInt) (b := 0) hC.x hC.b rfl rfl dX9_slope_56 (by decide) (fun c_25 => ?_) (fun c_25 => ?_)
          · skip
            refine lv_aload hC.x hC.b dX9_slope_67 (lv_at hl 0 rfl) ?_
            refine golp (runV (As := []) (rest := []) hC hK hR hl.1 (c_X3_slopeBelow l hG s_18 t_19 19 (by decide) ) (call_b hC.ts TC_X3_slopeBelow TN_X3 TM_X9_245 hd_X3_slopeBelow ⟨Nat.le_of_ble_eq_true rfl, Nat.le_of_ble_eq_true rfl⟩) TI_X3_slopeBelow TS_X3_slopeBelow (ct_xs G _ _) rfl rfl rfl (Nat.le_of_ble_eq_true rfl) dX9_slope_69 ⟨Nat.le_of_ble_eq_true rfl, Nat.le_of_ble_eq_true rfl⟩) hS (fun v_26 H locs w_27 hR hS => ?_)
            refine lv_lstore (lv' := [(5, .long v_26), (4, .ref (G.2.1 19)), (3, .ref (G.2.1 (80 + q))), (0, .ref (G.2.1 0)), (1, .int pl), (2, .int wa)]) hC.x hC.b dX9_slope_72 hl (by decide) rfl (fun ls hl => ?_)
            refine lv_lload hC.x hC.b dX9_slope_74 (lv_at hl 0 rfl) ?_
            refine lv_ldc hC.x hC.b hC.ow (hC.ts _ TK_X9_248) dX9_slope_76 ?_
            have av_28 : (1000000000 : Int32).toInt = 1000000000 := by decide
            refine goip (runS (As := [.long v_26, .int (1000000000 : Int32)]) (rest := []) hC hK hR hl.1 (c_X9_cut l hG s_18 t_19 v_26 (1000000000 : Int32) (by first | decide | omega)) (call_b hC.ts TC_X9_cut TN_X9 TM_X9_249 hd_X9_cut ⟨Nat.le_of_ble_eq_true rfl, Nat.le_of_ble_eq_true rfl⟩) TT_X9_cut rfl rfl (Nat.le_of_ble_eq_true rfl) dX9_slope_78 ⟨Nat.le_of_ble_eq_true rfl, Nat.le_of_ble_eq_true rfl⟩) hS (fun v_29 H locs w_30 hR hS => ?_)
            have f_31 := w_30
            exact reti hC hK hR hS (by exact (Fr.tr Fr.rf f_20)) dX9_slope_81
          · skip
            refine lv_aload hC.x hC.b dX9_slope_59 (lv_at hl 0 rfl) ?_
            refine golp (runV (As := []) (rest := []) hC hK hR hl.1 (c_X3_slopeAbove l hG s_18 t_19 19 (by decide) ) (call_b hC.ts TC_X3_slopeAbove TN_X3 TM_X9_241 hd_X3_slopeAbove ⟨Nat.le_of_ble_eq_true rfl, Nat.le_of_ble_eq_true rfl⟩) TI_X3_slopeAbove TS_X3_slopeAbove (ct_xs G _ _) rfl rfl rfl (Nat.le_of_ble_eq_true rfl) dX9_slope_61 ⟨Nat.le_of_ble_eq_true rfl, Nat.le_of_ble_eq_true rfl⟩) hS (fun v_32 H locs w_33 hR hS => ?_)
            refine lv_goto (tgt := 72) hC.x hC.b dX9_slope_64 (by decide) ?_
            refine lv_lstore (lv' := [(5, .long v_32), (4, .ref (G.2.1 19)), (3, .ref (G.2.1 (80 + q))), (0, .ref (G.2.1 0)), (1, .int pl), (2, .int wa)]) hC.x hC.b dX9_slope_72 hl (by decide) rfl (fun ls hl => ?_)
            refine lv_lload hC.x hC.b dX9_slope_74 (lv_at hl 0 rfl) ?_
            refine lv_ldc hC.x hC.b hC.ow (hC.ts _ TK_X9_248) dX9_slope_76 ?_
            have av_34 : (1000000000 : Int32).toInt = 1000000000 := by decide
            refine goip (runS (As := [.long v_32, .int (1000000000 : Int32)]) (rest := []) hC hK hR hl.1 (c_X9_cut l hG s_18 t_19 v_32 (1000000000 : Int32) (by first | decide | omega)) (call_b hC.ts TC_X9_cut TN_X9 TM_X9_249 hd_X9_cut ⟨Nat.le_of_ble_eq_true rfl, Nat.le_of_ble_eq_true rfl⟩) TT_X9_cut rfl rfl (Nat.le_of_ble_eq_true rfl) dX9_slope_78 ⟨Nat.le_of_ble_eq_true rfl, Nat.le_of_ble_eq_true rfl⟩) hS (fun v_35 H locs w_36 hR hS => ?_)
            have f_37 := w_36
            exact reti hC hK hR hS (by exact (Fr.tr Fr.rf f_20)) dX9_slope_81
        · skip
          refine lv_ldc hC.x hC.b hC.ow (hC.ts _ TK_X9_240) dX9_slope_52 ?_
          exact reti hC hK hR hS (by exact (Fr.tr Fr.rf f_20)) dX9_slope_54
      · skip
        refine lv_astore (lv' := [(4, .ref (G.2.1 20)), (3, .ref (G.2.1 (80 + q))), (0, .ref (G.2.1 0)), (1, .int pl), (2, .int wa)]) hC.x hC.b dX9_slope_42 hl (by decide) rfl (fun ls hl => ?_)
        refine lv_aload hC.x hC.b dX9_slope_44 (lv_at hl 0 rfl) ?_
        refine goip (runV (As := []) (rest := []) hC hK hR hl.1 (c_X3_count l hG s_18 t_19 20 (by decide) ) (call_b hC.ts TC_X3_count TN_X3 TM_X9_235 hd_X3_count ⟨Nat.le_of_ble_eq_true rfl, Nat.le_of_ble_eq_true rfl⟩) TI_X3_count TS_X3_count (ct_gains G _ _) rfl rfl rfl (Nat.le_of_ble_eq_true rfl) dX9_slope_46 ⟨Nat.le_of_ble_eq_true rfl, Nat.le_of_ble_eq_true rfl⟩) hS (fun v_38 H locs w_39 hR hS => ?_)
        subst w_39
        refine bz_ne (tgt := 55) (a := (s_18 20 0).toInt) (b := 0) hC.x hC.b rfl rfl dX9_slope_49 (by decide) (fun c_40 => ?_) (fun c_40 => ?_)
        · skip
          refine lv_iload_n hC.x hC.b dX9_slope_55 rfl (lv_at hl 4 rfl) ?_
          refine bz_ne (tgt := 67) (a := wa.toInt) (b := 0) hC.x hC.b rfl rfl dX9_slope_56 (by decide) (fun c_41 => ?_) (fun c_41 => ?_)
          · skip
            refine lv_aload hC.x hC.b dX9_slope_67 (lv_at hl 0 rfl) ?_
            refine golp (runV (As := []) (rest := []) hC hK hR hl.1 (c_X3_slopeBelow l hG s_18 t_19 20 (by decide) ) (call_b hC.ts TC_X3_slopeBelow TN_X3 TM_X9_245 hd_X3_slopeBelow ⟨Nat.le_of_ble_eq_true rfl, Nat.le_of_ble_eq_true rfl⟩) TI_X3_slopeBelow TS_X3_slopeBelow (ct_gains G _ _) rfl rfl rfl (Nat.le_of_ble_eq_true rfl) dX9_slope_69 ⟨Nat.le_of_ble_eq_true rfl, Nat.le_of_ble_eq_true rfl⟩) hS (fun v_42 H locs w_43 hR hS => ?_)
            refine lv_lstore (lv' := [(5, .long v_42), (4, .ref (G.2.1 20)), (3, .ref (G.2.1 (80 + q))), (0, .ref (G.2.1 0)), (1, .int pl), (2, .int wa)]) hC.x hC.b dX9_slope_72 hl (by decide) rfl (fun ls hl => ?_)
            refine lv_lload hC.x hC.b dX9_slope_74 (lv_at hl 0 rfl) ?_
            refine lv_ldc hC.x hC.b hC.ow (hC.ts _ TK_X9_248) dX9_slope_76 ?_
            have av_44 : (1000000000 : Int32).toInt = 1000000000 := by decide
            refine goip (runS (As := [.long v_42, .int (1000000000 : Int32)]) (rest := []) hC hK hR hl.1 (c_X9_cut l hG s_18 t_19 v_42 (1000000000 : Int32) (by first | decide | omega)) (call_b hC.ts TC_X9_cut TN_X9 TM_X9_249 hd_X9_cut ⟨Nat.le_of_ble_eq_true rfl, Nat.le_of_ble_eq_true rfl⟩) TT_X9_cut rfl rfl (Nat.le_of_ble_eq_true rfl) dX9_slope_78 ⟨Nat.le_of_ble_eq_true rfl, Nat.le_of_ble_eq_true rfl⟩) hS (fun v_45 H locs w_46 hR hS => ?_)
            have f_47 := w_46
            exact reti hC hK hR hS (by exact (Fr.tr Fr.rf f_21)) dX9_slope_81
          · skip
            refine lv_aload hC.x hC.b dX9_slope_59 (lv_at hl 0 rfl) ?_
            refine golp (runV (As := []) (rest := []) hC hK hR hl.1 (c_X3_slopeAbove l hG s_18 t_19 20 (by decide) ) (call_b hC.ts TC_X3_slopeAbove TN_X3 TM_X9_241 hd_X3_slopeAbove ⟨Nat.le_of_ble_eq_true rfl, Nat.le_of_ble_eq_true rfl⟩) TI_X3_slopeAbove TS_X3_slopeAbove (ct_gains G _ _) rfl rfl rfl (Nat.le_of_ble_eq_true rfl) dX9_slope_61 ⟨Nat.le_of_ble_eq_true rfl, Nat.le_of_ble_eq_true rfl⟩) hS (fun v_48 H locs w_49 hR hS => ?_)
            refine lv_goto (tgt := 72) hC.x hC.b dX9_slope_64 (by decide) ?_
            refine lv_lstore (lv' := [(5, .long v_48), (4, .ref (G.2.1 20)), (3, .ref (G.2.1 (80 + q))), (0, .ref (G.2.1 0)), (1, .int pl), (2, .int wa)]) hC.x hC.b dX9_slope_72 hl (by decide) rfl (fun ls hl => ?_)
            refine lv_lload hC.x hC.b dX9_slope_74 (lv_at hl 0 rfl) ?_
            refine lv_ldc hC.x hC.b hC.ow (hC.ts _ TK_X9_248) dX9_slope_76 ?_
            have av_50 : (1000000000 : Int32).toInt = 1000000000 := by decide
            refine goip (runS (As := [.long v_48, .int (1000000000 : Int32)]) (rest := []) hC hK hR hl.1 (c_X9_cut l hG s_18 t_19 v_48 (1000000000 : Int32) (by first | decide | omega)) (call_b hC.ts TC_X9_cut TN_X9 TM_X9_249 hd_X9_cut ⟨Nat.le_of_ble_eq_true rfl, Nat.le_of_ble_eq_true rfl⟩) TT_X9_cut rfl rfl (Nat.le_of_ble_eq_true rfl) dX9_slope_78 ⟨Nat.le_of_ble_eq_true rfl, Nat.le_of_ble_eq_true rfl⟩) hS (fun v_51 H locs w_52 hR hS => ?_)
            have f_53 := w_52
            exact reti hC hK hR hS (by exact (Fr.tr Fr.rf f_21)) dX9_slope_81
        · skip
          refine lv_ldc hC.x hC.b hC.ow (hC.ts _ TK_X9_240) dX9_slope_52 ?_
          exact reti hC hK hR hS (by exact (Fr.tr Fr.rf f_21)) dX9_slope_54
    · skip
      refine lv_iload_n hC.x hC.b dX9_slope_23 rfl (lv_at hl 3 rfl) ?_
      refine lv_iconst (v := 1) hC.x hC.b dX9_slope_24 (by decide) ?_
      refine bi_eq (tgt := 30) (a := wa.toInt) (b := 1) hC.x hC.b rfl rfl dX9_slope_25 (by decide) (fun c_54 => ?_) (fun c_54 => ?_)
      · skip
        refine lv_aload_n hC.x hC.b dX9_slope_30 rfl (lv_at hl 1 rfl) ?_
        refine rget hC hK hR (ct_bench G _ _) rfl uin_X9 4 (by decide) TF_X9_44 rfl dX9_slope_31 ?_
        refine lv_aload_n hC.x hC.b dX9_slope_34 rfl (lv_at hl 0 rfl) ?_
        refine lv_aload_n hC.x hC.b dX9_slope_35 rfl (lv_at hl 1 rfl) ?_
        refine rget hC hK hR (ct_bench G _ _) rfl uin_X9 8 (by decide) TF_X9_65 rfl dX9_slope_36 ?_
        refine goq (runV (As := [.ref (G.2.1 (80 + q)), .int (σ 0 8)]) (rest := []) hC hK hR hl.1 (c_X2_lineOf l hG σ τ q hq_14 (σ 0 8) ) (call_b hC.ts TC_X2_lineOf TN_X2 TM_X9_231 hd_X2_lineOf ⟨Nat.le_of_ble_eq_true rfl, Nat.le_of_ble_eq_true rfl⟩) TI_X2_lineOf TS_X2_lineOf (ct_fore G _ _) rfl rfl rfl (Nat.le_of_ble_eq_true rfl) dX9_slope_39 ⟨Nat.le_of_ble_eq_true rfl, Nat.le_of_ble_eq_true rfl⟩) hS (fun v_55 s_57 t_58 H locs w_56 hR hS => ?_)
        try dsimp only [po_X2_lineOf] at w_56
        rcases w_56 with ⟨rfl, f_59⟩ | ⟨rfl, f_60⟩
        · skip
          refine lv_astore (lv' := [(4, .ref (G.2.1 19)), (3, .ref (G.2.1 (80 + q))), (0, .ref (G.2.1 0)), (1, .int pl), (2, .int wa)]) hC.x hC.b dX9_slope_42 hl (by decide) rfl (fun ls hl => ?_)
          refine lv_aload hC.x hC.b dX9_slope_44 (lv_at hl 0 rfl) ?_
          refine goip (runV (As := []) (rest := []) hC hK hR hl.1 (c_X3_count l hG s_57 t_58 19 (by decide) ) (call_b hC.ts TC_X3_count TN_X3 TM_X9_235 hd_X3_count ⟨Nat.le_of_ble_eq_true rfl, Nat.le_of_ble_eq_true rfl⟩) TI_X3_count TS_X3_count (ct_xs G _ _) rfl rfl rfl (Nat.le_of_ble_eq_true rfl) dX9_slope_46 ⟨Nat.le_of_ble_eq_true rfl, Nat.le_of_ble_eq_true rfl⟩) hS (fun v_61 H locs w_62 hR hS => ?_)
          subst w_62
          refine bz_ne (tgt := 55) (a := (s_57 19 0).toInt) (b := 0) hC.x hC.b rfl rfl dX9_slope_49 (by decide) (fun c_63 => ?_) (fun c_63 => ?_)
          · skip
            refine lv_iload_n hC.x hC.b dX9_slope_55 rfl (lv_at hl 4 rfl) ?_
            refine bz_ne (tgt := 67) (a := wa.toInt) (b := 0) hC.x hC.b rfl rfl dX9_slope_56 (by decide) (fun c_64 => ?_) (fun c_64 => ?_)
            · skip
              refine lv_aload hC.x hC.b dX9_slope_67 (lv_at hl 0 rfl) ?_
              refine golp (runV (As := []) (rest := []) hC hK hR hl.1 (c_X3_slopeBelow l hG s_57 t_58 19 (by decide) ) (call_b hC.ts TC_X3_slopeBelow TN_X3 TM_X9_245 hd_X3_slopeBelow ⟨Nat.le_of_ble_eq_true rfl, Nat.le_of_ble_eq_true rfl⟩) TI_X3_slopeBelow TS_X3_slopeBelow (ct_xs G _ _) rfl rfl rfl (Nat.le_of_ble_eq_true rfl) dX9_slope_69 ⟨Nat.le_of_ble_eq_true rfl, Nat.le_of_ble_eq_true rfl⟩) hS (fun v_65 H locs w_66 hR hS => ?_)
              refine lv_lstore (lv' := [(5, .long v_65), (4, .ref (G.2.1 19)), (3, .ref (G.2.1 (80 + q))), (0, .ref (G.2.1 0)), (1, .int pl), (2, .int wa)]) hC.x hC.b dX9_slope_72 hl (by decide) rfl (fun ls hl => ?_)
              refine lv_lload hC.x hC.b dX9_slope_74 (lv_at hl 0 rfl) ?_
              refine lv_ldc hC.x hC.b hC.ow (hC.ts _ TK_X9_248) dX9_slope_76 ?_
              have av_67 : (1000000000 : Int32).toInt = 1000000000 := by decide
              refine goip (runS (As := [.long v_65, .int (1000000000 : Int32)]) (rest := []) hC hK hR hl.1 (c_X9_cut l hG s_57 t_58 v_65 (1000000000 : Int32) (by first | decide | omega)) (call_b hC.ts TC_X9_cut TN_X9 TM_X9_249 hd_X9_cut ⟨Nat.le_of_ble_eq_true rfl, Nat.le_of_ble_eq_true rfl⟩) TT_X9_cut rfl rfl (Nat.le_of_ble_eq_true rfl) dX9_slope_78 ⟨Nat.le_of_ble_eq_true rfl, Nat.le_of_ble_eq_true rfl⟩) hS (fun v_68 H locs w_69 hR hS => ?_)
              have f_70 := w_69
              exact reti hC hK hR hS (by exact (Fr.tr Fr.rf f_59)) dX9_slope_81
            · skip
              refine lv_aload hC.x hC.b dX9_slope_59 (lv_at hl 0 rfl) ?_
              refine golp (runV (As := []) (rest := []) hC hK hR hl.1 (c_X3_slopeAbove l hG s_57 t_58 19 (by decide) ) (call_b hC.ts TC_X3_slopeAbove TN_X3 TM_X9_241 hd_X3_slopeAbove ⟨Nat.le_of_ble_eq_true rfl, Nat.le_of_ble_eq_true rfl⟩) TI_X3_slopeAbove TS_X3_slopeAbove (ct_xs G _ _) rfl rfl rfl (Nat.le_of_ble_eq_true rfl) dX9_slope_61 ⟨Nat.le_of_ble_eq_true rfl, Nat.le_of_ble_eq_true rfl⟩) hS (fun v_71 H locs w_72 hR hS => ?_)
              refine lv_goto (tgt := 72) hC.x hC.b dX9_slope_64 (by decide) ?_
              refine lv_lstore (lv' := [(5, .long v_71), (4, .ref (G.2.1 19)), (3, .ref (G.2.1 (80 + q))), (0, .ref (G.2.1 0)), (1, .int pl), (2, .int wa)]) hC.x hC.b dX9_slope_72 hl (by decide) rfl (fun ls hl => ?_)
              refine lv_lload hC.x hC.b dX9_slope_74 (lv_at hl 0 rfl) ?_
              refine lv_ldc hC.x hC.b hC.ow (hC.ts _ TK_X9_248) dX9_slope_76 ?_
              have av_73 : (1000000000 : Int32).toInt = 1000000000 := by decide
              refine goip (runS (As := [.long v_71, .int (1000000000 : Int32)]) (rest := []) hC hK hR hl.1 (c_X9_cut l hG s_57 t_58 v_71 (1000000000 : Int32) (by first | decide | omega)) (call_b hC.ts TC_X9_cut TN_X9 TM_X9_249 hd_X9_cut ⟨Nat.le_of_ble_eq_true rfl, Nat.le_of_ble_eq_true rfl⟩) TT_X9_cut rfl rfl (Nat.le_of_ble_eq_true rfl) dX9_slope_78 ⟨Nat.le_of_ble_eq_true rfl, Nat.le_of_ble_eq_true rfl⟩) hS (fun v_74 H locs w_75 hR hS => ?_)
              have f_76 := w_75
              exact reti hC hK hR hS (by exact (Fr.tr Fr.rf f_59)) dX9_slope_81
          · skip
            refine lv_ldc hC.x hC.b hC.ow (hC.ts _ TK_X9_240) dX9_slope_52 ?_
            exact reti hC hK hR hS (by exact (Fr.tr Fr.rf f_59)) dX9_slope_54
        · skip
          refine lv_astore (lv' := [(4, .ref (G.2.1 20)), (3, .ref (G.2.1 (80 + q))), (0, .ref (G.2.1 0)), (1, .int pl), (2, .int wa)]) hC.x hC.b dX9_slope_42 hl (by decide) rfl (fun ls hl => ?_)
          refine lv_aload hC.x hC.b dX9_slope_44 (lv_at hl 0 rfl) ?_
          refine goip (runV (As := []) (rest := []) hC hK hR hl.1 (c_X3_count l hG s_57 t_58 20 (by decide) ) (call_b hC.ts TC_X3_count TN_X3 TM_X9_235 hd_X3_count ⟨Nat.le_of_ble_eq_true rfl, Nat.le_of_ble_eq_true rfl⟩) TI_X3_count TS_X3_count (ct_gains G _ _) rfl rfl rfl (Nat.le_of_ble_eq_true rfl) dX9_slope_46 ⟨Nat.le_of_ble_eq_true rfl, Nat.le_of_ble_eq_true rfl⟩) hS (fun v_77 H locs w_78 hR hS => ?_)
          subst w_78
          refine bz_ne (tgt := 55) (a := (s_57 20 0).toInt) (b := 0) hC.x hC.b rfl rfl dX9_slope_49 (by decide) (fun c_79 => ?_) (fun c_79 => ?_)
          · skip
            refine lv_iload_n hC.x hC.b dX9_slope_55 rfl (lv_at hl 4 rfl) ?_
            refine bz_ne (tgt := 67) (a := wa.toInt) (b := 0) hC.x hC.b rfl rfl dX9_slope_56 (by decide) (fun c_80 => ?_) (fun c_80 => ?_)
            · skip
              refine lv_aload hC.x hC.b dX9_slope_67 (lv_at hl 0 rfl) ?_
              refine golp (runV (As := []) (rest := []) hC hK hR hl.1 (c_X3_slopeBelow l hG s_57 t_58 20 (by decide) ) (call_b hC.ts TC_X3_slopeBelow TN_X3 TM_X9_245 hd_X3_slopeBelow ⟨Nat.le_of_ble_eq_true rfl, Nat.le_of_ble_eq_true rfl⟩) TI_X3_slopeBelow TS_X3_slopeBelow (ct_gains G _ _) rfl rfl rfl (Nat.le_of_ble_eq_true rfl) dX9_slope_69 ⟨Nat.le_of_ble_eq_true rfl, Nat.le_of_ble_eq_true rfl⟩) hS (fun v_81 H locs w_82 hR hS => ?_)
              refine lv_lstore (lv' := [(5, .long v_81), (4, .ref (G.2.1 20)), (3, .ref (G.2.1 (80 + q))), (0, .ref (G.2.1 0)), (1, .int pl), (2, .int wa)]) hC.x hC.b dX9_slope_72 hl (by decide) rfl (fun ls hl => ?_)
              refine lv_lload hC.x hC.b dX9_slope_74 (lv_at hl 0 rfl) ?_
              refine lv_ldc hC.x hC.b hC.ow (hC.ts _ TK_X9_248) dX9_slope_76 ?_
              have av_83 : (1000000000 : Int32).toInt = 1000000000 := by decide
              refine goip (runS (As := [.long v_81, .int (1000000000 : Int32)]) (rest := []) hC hK hR hl.1 (c_X9_cut l hG s_57 t_58 v_81 (1000000000 : Int32) (by first | decide | omega)) (call_b hC.ts TC_X9_cut TN_X9 TM_X9_249 hd_X9_cut ⟨Nat.le_of_ble_eq_true rfl, Nat.le_of_ble_eq_true rfl⟩) TT_X9_cut rfl rfl (Nat.le_of_ble_eq_true rfl) dX9_slope_78 ⟨Nat.le_of_ble_eq_true rfl, Nat.le_of_ble_eq_true rfl⟩) hS (fun v_84 H locs w_85 hR hS => ?_)
              have f_86 := w_85
              exact reti hC hK hR hS (by exact (Fr.tr Fr.rf f_60)) dX9_slope_81
            · skip
              refine lv_aload hC.x hC.b dX9_slope_59 (lv_at hl 0 rfl) ?_
              refine golp (runV (As := []) (rest := []) hC hK hR hl.1 (c_X3_slopeAbove l hG s_57 t_58 20 (by decide) ) (call_b hC.ts TC_X3_slopeAbove TN_X3 TM_X9_241 hd_X3_slopeAbove ⟨Nat.le_of_ble_eq_true rfl, Nat.le_of_ble_eq_true rfl⟩) TI_X3_slopeAbove TS_X3_slopeAbove (ct_gains G _ _) rfl rfl rfl (Nat.le_of_ble_eq_true rfl) dX9_slope_61 ⟨Nat.le_of_ble_eq_true rfl, Nat.le_of_ble_eq_true rfl⟩) hS (fun v_87 H locs w_88 hR hS => ?_)
              refine lv_goto (tgt := 72) hC.x hC.b dX9_slope_64 (by decide) ?_
              refine lv_lstore (lv' := [(5, .long v_87), (4, .ref (G.2.1 20)), (3, .ref (G.2.1 (80 + q))), (0, .ref (G.2.1 0)), (1, .int pl), (2, .int wa)]) hC.x hC.b dX9_slope_72 hl (by decide) rfl (fun ls hl => ?_)
              refine lv_lload hC.x hC.b dX9_slope_74 (lv_at hl 0 rfl) ?_
              refine lv_ldc hC.x hC.b hC.ow (hC.ts _ TK_X9_248) dX9_slope_76 ?_
              have av_89 : (1000000000 : Int32).toInt = 1000000000 := by decide
              refine goip (runS (As := [.long v_87, .int (1000000000 : Int32)]) (rest := []) hC hK hR hl.1 (c_X9_cut l hG s_57 t_58 v_87 (1000000000 : Int32) (by first | decide | omega)) (call_b hC.ts TC_X9_cut TN_X9 TM_X9_249 hd_X9_cut ⟨Nat.le_of_ble_eq_true rfl, Nat.le_of_ble_eq_true rfl⟩) TT_X9_cut rfl rfl (Nat.le_of_ble_eq_true rfl) dX9_slope_78 ⟨Nat.le_of_ble_eq_true rfl, Nat.le_of_ble_eq_true rfl⟩) hS (fun v_90 H locs w_91 hR hS => ?_)
              have f_92 := w_91
              exact reti hC hK hR hS (by exact (Fr.tr Fr.rf f_60)) dX9_slope_81
          · skip
            refine lv_ldc hC.x hC.b hC.ow (hC.ts _ TK_X9_240) dX9_slope_52 ?_
            exact reti hC hK hR hS (by exact (Fr.tr Fr.rf f_60)) dX9_slope_54
      · skip
        refine lv_iconst (v := (-1)) hC.x hC.b dX9_slope_28 (by decide) ?_
        exact reti hC hK hR hS (by exact Fr.rf) dX9_slope_29

abbrev po_X9_weight (σ : SI) (τ : SL) (pl : Int32) (q : Nat) : Int32 → SI × SL → Prop := fun v u => ((Fr (fun k => 18 ≤ k ∧ k ≤ 20) σ u.1))
set_option maxRecDepth 100000 in
set_option maxHeartbeats 4000000 in
theorem c_X9_weight (l : Launch) {G : Gx} {A : Nat → Prop} (hG : GOk G A) (σ : SI) (τ : SL) (pl : Int32) (q : Nat) (hp_q : pl.toInt.toNat = q) : MI l G A 4 yX9_weight cX9_weight 3 (some .int) [.ref (G.2.1 0), .int pl] (σ, τ) (po_X9_weight σ τ pl q) := by
  refine met_of (own := RX9) (by decide +kernel) rfl [(0, .ref (G.2.1 0)), (1, .int pl)] rfl (Nat.le_of_ble_eq_true rfl) ?_
  intro p e s m args below meth c ls hC hK hR hl
  have hS : va_S A s.heap s.heap [] := va_S.rf
  refine lv_aload_n hC.x hC.b dX9_weight_0 rfl (lv_at hl 0 rfl) ?_
  refine rget hC hK hR (ct_bench G _ _) rfl uin_X9 0 (by decide) TF_X9_10 rfl dX9_weight_1 ?_
  refine lv_iload_n hC.x hC.b dX9_weight_4 rfl (lv_at hl 1 rfl) ?_
  refine goqp (runV (As := [.int pl]) (rest := []) hC hK hR hl.1 (c_X5_clockAt l hG σ τ pl q (by first | rfl | (rw [show pl.toInt = pl.toInt from rfl]; done) | (rw [show pl.toInt = pl.toInt from rfl]; exact hp_q)) ) (call_b hC.ts TC_X5_clockAt TN_X5 TM_X9_169 hd_X5_clockAt ⟨Nat.le_of_ble_eq_true rfl, Nat.le_of_ble_eq_true rfl⟩) TI_X5_clockAt TS_X5_clockAt (ct_shelf G _ _) rfl rfl rfl (Nat.le_of_ble_eq_true rfl) dX9_weight_5 ⟨Nat.le_of_ble_eq_true rfl, Nat.le_of_ble_eq_true rfl⟩) hS (fun v_1 H locs w_2 hR hS => ?_)
  rcases w_2 with ⟨rfl, f_3⟩ | ⟨rfl, f_4, f_5, f_6, f_7⟩
  · skip
    refine lv_astore_nN (lv' := [(2, .null), (0, .ref (G.2.1 0)), (1, .int pl)]) hC.x hC.b dX9_weight_8 rfl hl (by decide) rfl (fun ls hl => ?_)
    refine lv_aload_nN hC.x hC.b dX9_weight_9 rfl (lv_at hl 0 rfl) ?_
    refine lv_ifnonnullN hC.x hC.b dX9_weight_10 ?_
    refine lv_aload_n hC.x hC.b dX9_weight_13 rfl (lv_at hl 1 rfl) ?_
    refine lv_iload_n hC.x hC.b dX9_weight_14 rfl (lv_at hl 2 rfl) ?_
    refine goip (runV (As := [.int pl]) (rest := []) hC hK hR hl.1 (c_X9_refusalAt l hG σ τ pl q (by first | rfl | (rw [show pl.toInt = pl.toInt from rfl]; done) | (rw [show pl.toInt = pl.toInt from rfl]; exact hp_q)) ) (call_b hC.ts TC_X9_refusalAt TN_X9 TM_X9_116 hd_X9_refusalAt ⟨Nat.le_of_ble_eq_true rfl, Nat.le_of_ble_eq_true rfl⟩) TI_X9_refusalAt TS_X9_refusalAt (ct_bench G _ _) rfl rfl rfl (Nat.le_of_ble_eq_true rfl) dX9_weight_15 ⟨Nat.le_of_ble_eq_true rfl, Nat.le_of_ble_eq_true rfl⟩) hS (fun v_8 H locs w_9 hR hS => ?_)
    rcases w_9 with ⟨rfl, f_10⟩ | ⟨rfl, f_11, f_12, f_13⟩
    · skip
      exact reti hC hK hR hS (by exact Fr.rf) dX9_weight_18
    · skip
      exact reti hC hK hR hS (by exact Fr.rf) dX9_weight_18
  · skip
    have hq_14 : q < 24 := by omega
    refine lv_astore_n (lv' := [(2, .ref (G.2.1 (80 + q))), (0, .ref (G.2.1 0)), (1, .int pl)]) hC.x hC.b dX9_weight_8 rfl hl (by decide) rfl (fun ls hl => ?_)
    refine lv_aload_n hC.x hC.b dX9_weight_9 rfl (lv_at hl 0 rfl) ?_
    refine lv_ifnonnull (tgt := 19) hC.x hC.b dX9_weight_10 (by decide) ?_
    refine lv_aload_n hC.x hC.b dX9_weight_19 rfl (lv_at hl 1 rfl) ?_
    refine rget hC hK hR (ct_bench G _ _) rfl uin_X9 4 (by decide) TF_X9_44 rfl dX9_weight_20 ?_
    refine lv_aload_n hC.x hC.b dX9_weight_23 rfl (lv_at hl 0 rfl) ?_
    refine lv_aload_n hC.x hC.b dX9_weight_24 rfl (lv_at hl 1 rfl) ?_
    refine rget hC hK hR (ct_bench G _ _) rfl uin_X9 8 (by decide) TF_X9_65 rfl dX9_weight_25 ?_
    refine lv_aload_n hC.x hC.b dX9_weight_28 rfl (lv_at hl 1 rfl) ?_
    refine rget hC hK hR (ct_bench G _ _) rfl uin_X9 4 (by decide) TF_X9_44 rfl dX9_weight_29 ?_
    refine lv_aload_n hC.x hC.b dX9_weight_32 rfl (lv_at hl 0 rfl) ?_
    refine lv_aload_n hC.x hC.b dX9_weight_33 rfl (lv_at hl 1 rfl) ?_
    refine rget hC hK hR (ct_bench G _ _) rfl uin_X9 8 (by decide) TF_X9_65 rfl dX9_weight_34 ?_
    refine goi (runV (As := [.ref (G.2.1 (80 + q)), .int (σ 0 8)]) (rest := [.int (σ 0 8), .ref (G.2.1 (80 + q)), .ref (G.2.1 18)]) hC hK hR hl.1 (c_X2_foretoldOf l hG σ τ q hq_14 (σ 0 8) ) (call_b hC.ts TC_X2_foretoldOf TN_X2 TM_X9_228 hd_X2_foretoldOf ⟨Nat.le_of_ble_eq_true rfl, Nat.le_of_ble_eq_true rfl⟩) TI_X2_foretoldOf TS_X2_foretoldOf (ct_fore G _ _) rfl rfl rfl (Nat.le_of_ble_eq_true rfl) dX9_weight_37 ⟨Nat.le_of_ble_eq_true rfl, Nat.le_of_ble_eq_true rfl⟩) hS (fun v_15 s_17 t_18 H locs w_16 hR hS => ?_)
    try dsimp only [po_X2_foretoldOf] at w_16
    have f_19 := w_16
    refine goi (runV (As := [.ref (G.2.1 (80 + q)), .int (σ 0 8), .int v_15]) (rest := []) hC hK hR hl.1 (c_X2_fullWeightOf l hG s_17 t_18 q hq_14 (σ 0 8) v_15 ) (call_b hC.ts TC_X2_fullWeightOf TN_X2 TM_X9_253 hd_X2_fullWeightOf ⟨Nat.le_of_ble_eq_true rfl, Nat.le_of_ble_eq_true rfl⟩) TI_X2_fullWeightOf TS_X2_fullWeightOf (ct_fore G _ _) rfl rfl rfl (Nat.le_of_ble_eq_true rfl) dX9_weight_40 ⟨Nat.le_of_ble_eq_true rfl, Nat.le_of_ble_eq_true rfl⟩) hS (fun v_20 s_22 t_23 H locs w_21 hR hS => ?_)
    try dsimp only [po_X2_fullWeightOf] at w_21
    have f_24 := w_21
    exact reti hC hK hR hS (by exact (Fr.tr (Fr.tr Fr.rf f_19) f_24)) dX9_weight_43

abbrev po_X9_as (σ : SI) (τ : SL) (hr : Int32) (pl : Int32) (wa : Int32) : Int32 → SI × SL → Prop := fun v u => u = (σ, τ) ∧ (True)
set_option maxRecDepth 100000 in
set_option maxHeartbeats 4000000 in
theorem c_X9_as (l : Launch) {G : Gx} {A : Nat → Prop} (hG : GOk G A) (σ : SI) (τ : SL) (hr : Int32) (pl : Int32) (wa : Int32) : MI l G A 1 yX9_as cX9_as 4 (some .int) [.ref (G.2.1 0), .int hr, .int pl, .int wa] (σ, τ) (po_X9_as σ τ hr pl wa) := by
  refine met_of (own := RX9) (by decide +kernel) rfl [(0, .ref (G.2.1 0)), (1, .int hr), (2, .int pl), (3, .int wa)] rfl (Nat.le_of_ble_eq_true rfl) ?_
  intro p e s m args below meth c ls hC hK hR hl
  have hS : va_S A s.heap s.heap [] := va_S.rf
  refine lv_iload_n hC.x hC.b dX9_as_0 rfl (lv_at hl 3 rfl) ?_
  refine bz_lt (tgt := 9) (a := wa.toInt) (b := 0) hC.x hC.b rfl rfl dX9_as_1 (by decide) (fun c_1 => ?_) (fun c_1 => ?_)
  · skip
    refine lv_iconst (v := (-1)) hC.x hC.b dX9_as_9 (by decide) ?_
    exact reti hC hK hR hS ⟨rfl, (trivial)⟩ dX9_as_10
  · skip
    refine lv_iload_n hC.x hC.b dX9_as_4 rfl (lv_at hl 3 rfl) ?_
    refine lv_iconst (v := 5) hC.x hC.b dX9_as_5 (by decide) ?_
    refine bi_lt (tgt := 11) (a := wa.toInt) (b := 5) hC.x hC.b rfl rfl dX9_as_6 (by decide) (fun c_2 => ?_) (fun c_2 => ?_)
    · skip
      refine lv_iload_n hC.x hC.b dX9_as_11 rfl (lv_at hl 1 rfl) ?_
      refine bz_lt (tgt := 30) (a := hr.toInt) (b := 0) hC.x hC.b rfl rfl dX9_as_12 (by decide) (fun c_3 => ?_) (fun c_3 => ?_)
      · skip
        refine lv_ldc hC.x hC.b hC.ow (hC.ts _ TK_X9_240) dX9_as_30 ?_
        refine lv_goto (tgt := 45) hC.x hC.b dX9_as_32 (by decide) ?_
        exact reti hC hK hR hS ⟨rfl, (trivial)⟩ dX9_as_45
      · skip
        refine lv_iload_n hC.x hC.b dX9_as_15 rfl (lv_at hl 1 rfl) ?_
        refine lv_aload_n hC.x hC.b dX9_as_16 rfl (lv_at hl 0 rfl) ?_
        refine rget hC hK hR (ct_bench G _ _) rfl uin_X9 8 (by decide) TF_X9_65 rfl dX9_as_17 ?_
        refine bi_ge (tgt := 30) (a := hr.toInt) (b := (σ 0 8).toInt) hC.x hC.b rfl rfl dX9_as_20 (by decide) (fun c_4 => ?_) (fun c_4 => ?_)
        · skip
          refine lv_ldc hC.x hC.b hC.ow (hC.ts _ TK_X9_240) dX9_as_30 ?_
          refine lv_goto (tgt := 45) hC.x hC.b dX9_as_32 (by decide) ?_
          exact reti hC hK hR hS ⟨rfl, (trivial)⟩ dX9_as_45
        · skip
          refine lv_iload_n hC.x hC.b dX9_as_23 rfl (lv_at hl 2 rfl) ?_
          refine goip (runS (As := [.int pl]) (rest := []) hC hK hR hl.1 (c_X9_isPlace l hG σ τ pl ) (call_b hC.ts TC_X9_isPlace TN_X9 TM_X9_80 hd_X9_isPlace ⟨Nat.le_of_ble_eq_true rfl, Nat.le_of_ble_eq_true rfl⟩) TT_X9_isPlace rfl rfl (Nat.le_of_ble_eq_true rfl) dX9_as_24 ⟨Nat.le_of_ble_eq_true rfl, Nat.le_of_ble_eq_true rfl⟩) hS (fun v_5 H locs w_6 hR hS => ?_)
          rcases w_6 with ⟨rfl, f_7, f_8⟩ | ⟨rfl, f_9⟩
          · skip
            refine bz_ne (tgt := 35) (a := 1) (b := 0) hC.x hC.b rfl rfl dX9_as_27 (by decide) (fun _ => ?_) (fun c_10 => absurd c_10 (by decide))
            refine lv_aload_n hC.x hC.b dX9_as_35 rfl (lv_at hl 0 rfl) ?_
            refine rget hC hK hR (ct_bench G _ _) rfl uin_X9 1 (by decide) TF_X9_19 rfl dX9_as_36 ?_
            refine lv_iload_n hC.x hC.b dX9_as_39 rfl (lv_at hl 3 rfl) ?_
            refine lv_iload_n hC.x hC.b dX9_as_40 rfl (lv_at hl 1 rfl) ?_
            refine lv_iload_n hC.x hC.b dX9_as_41 rfl (lv_at hl 2 rfl) ?_
            refine goip (runV (As := [.int wa, .int hr, .int pl]) (rest := []) hC hK hR hl.1 (c_X7_ofClock l hG σ τ wa hr pl ) (call_b hC.ts TC_X7_ofClock TN_X7 TM_X9_257 hd_X7_ofClock ⟨Nat.le_of_ble_eq_true rfl, Nat.le_of_ble_eq_true rfl⟩) TI_X7_ofClock TS_X7_ofClock (ct_told G _ _) rfl rfl rfl (Nat.le_of_ble_eq_true rfl) dX9_as_42 ⟨Nat.le_of_ble_eq_true rfl, Nat.le_of_ble_eq_true rfl⟩) hS (fun v_11 H locs w_12 hR hS => ?_)
            exact reti hC hK hR hS ⟨rfl, (trivial)⟩ dX9_as_45
          · skip
            refine bz_ne (tgt := 35) (a := 0) (b := 0) hC.x hC.b rfl rfl dX9_as_27 (by decide) (fun c_13 => absurd c_13 (by decide)) (fun _ => ?_)
            refine lv_ldc hC.x hC.b hC.ow (hC.ts _ TK_X9_240) dX9_as_30 ?_
            refine lv_goto (tgt := 45) hC.x hC.b dX9_as_32 (by decide) ?_
            exact reti hC hK hR hS ⟨rfl, (trivial)⟩ dX9_as_45
    · skip
      refine lv_iconst (v := (-1)) hC.x hC.b dX9_as_9 (by decide) ?_
      exact reti hC hK hR hS ⟨rfl, (trivial)⟩ dX9_as_10

abbrev po_X9_paper (σ : SI) (τ : SL) (hr : Int32) (wa : Int32) : Int32 → SI × SL → Prop := fun v u => u = (σ, τ) ∧ (True)
set_option maxRecDepth 100000 in
set_option maxHeartbeats 4000000 in
theorem c_X9_paper (l : Launch) {G : Gx} {A : Nat → Prop} (hG : GOk G A) (σ : SI) (τ : SL) (hr : Int32) (wa : Int32) : MI l G A 1 yX9_paper cX9_paper 3 (some .int) [.ref (G.2.1 0), .int hr, .int wa] (σ, τ) (po_X9_paper σ τ hr wa) := by
  refine met_of (own := RX9) (by decide +kernel) rfl [(0, .ref (G.2.1 0)), (1, .int hr), (2, .int wa)] rfl (Nat.le_of_ble_eq_true rfl) ?_
  intro p e s m args below meth c ls hC hK hR hl
  have hS : va_S A s.heap s.heap [] := va_S.rf
  refine lv_aload_n hC.x hC.b dX9_paper_0 rfl (lv_at hl 0 rfl) ?_
  refine rget hC hK hR (ct_bench G _ _) rfl uin_X9 1 (by decide) TF_X9_19 rfl dX9_paper_1 ?_
  refine lv_iload_n hC.x hC.b dX9_paper_4 rfl (lv_at hl 2 rfl) ?_
  refine lv_iload_n hC.x hC.b dX9_paper_5 rfl (lv_at hl 1 rfl) ?_
  refine goip (runV (As := [.int wa, .int hr]) (rest := []) hC hK hR hl.1 (c_X7_ofPaper l hG σ τ wa hr ) (call_b hC.ts TC_X7_ofPaper TN_X7 TM_X9_260 hd_X7_ofPaper ⟨Nat.le_of_ble_eq_true rfl, Nat.le_of_ble_eq_true rfl⟩) TI_X7_ofPaper TS_X7_ofPaper (ct_told G _ _) rfl rfl rfl (Nat.le_of_ble_eq_true rfl) dX9_paper_6 ⟨Nat.le_of_ble_eq_true rfl, Nat.le_of_ble_eq_true rfl⟩) hS (fun v_1 H locs w_2 hR hS => ?_)
  exact reti hC hK hR hS ⟨rfl, (trivial)⟩ dX9_paper_9

abbrev po_X9_step (σ : SI) (τ : SL) (ia : Int32) (wa : Int32) : Int32 → SI × SL → Prop := fun v u => u = (σ, τ) ∧ (True)
set_option maxRecDepth 100000 in
set_option maxHeartbeats 4000000 in
theorem c_X9_step (l : Launch) {G : Gx} {A : Nat → Prop} (hG : GOk G A) (σ : SI) (τ : SL) (ia : Int32) (wa : Int32) : MI l G A 1 yX9_step cX9_step 3 (some .int) [.ref (G.2.1 0), .int ia, .int wa] (σ, τ) (po_X9_step σ τ ia wa) := by
  refine met_of (own := RX9) (by decide +kernel) rfl [(0, .ref (G.2.1 0)), (1, .int ia), (2, .int wa)] rfl (Nat.le_of_ble_eq_true rfl) ?_
  intro p e s m args below meth c ls hC hK hR hl
  have hS : va_S A s.heap s.heap [] := va_S.rf
  refine lv_aload_n hC.x hC.b dX9_step_0 rfl (lv_at hl 0 rfl) ?_
  refine rget hC hK hR (ct_bench G _ _) rfl uin_X9 2 (by decide) TF_X9_26 rfl dX9_step_1 ?_
  refine lv_iload_n hC.x hC.b dX9_step_4 rfl (lv_at hl 1 rfl) ?_
  refine lv_iload_n hC.x hC.b dX9_step_5 rfl (lv_at hl 2 rfl) ?_
  refine goip (runV (As := [.int ia, .int wa]) (rest := []) hC hK hR hl.1 (c_X6_valueOf l hG σ τ ia wa ) (call_b hC.ts TC_X6_valueOf TN_X6 TM_X9_263 hd_X6_valueOf ⟨Nat.le_of_ble_eq_true rfl, Nat.le_of_ble_eq_true rfl⟩) TI_X6_valueOf TS_X6_valueOf (ct_steps G _ _) rfl rfl rfl (Nat.le_of_ble_eq_true rfl) dX9_step_6 ⟨Nat.le_of_ble_eq_true rfl, Nat.le_of_ble_eq_true rfl⟩) hS (fun v_1 H locs w_2 hR hS => ?_)
  exact reti hC hK hR hS ⟨rfl, (trivial)⟩ dX9_step_9

abbrev po_X9_show (σ : SI) (τ : SL) (xa : Int32) : Int32 → SI × SL → Prop := fun v u => ((v = (0)) ∧ (u.1 = σ) ∧ (u.2 = τ) ∧ (¬ (-1000000 ≤ xa.toInt ∧ xa.toInt ≤ 1000000))) ∨ ((v = (1)) ∧ (u.1 = up2 σ 0 12 xa) ∧ (u.2 = τ) ∧ (-1000000 ≤ xa.toInt) ∧ (xa.toInt ≤ 1000000))
set_option maxRecDepth 100000 in
set_option maxHeartbeats 4000000 in
theorem c_X9_show (l : Launch) {G : Gx} {A : Nat → Prop} (hG : GOk G A) (σ : SI) (τ : SL) (xa : Int32) : MI l G A 1 yX9_show cX9_show 2 (some .boolean) [.ref (G.2.1 0), .int xa] (σ, τ) (po_X9_show σ τ xa) := by
  refine met_of (own := RX9) (by decide +kernel) rfl [(0, .ref (G.2.1 0)), (1, .int xa)] rfl (Nat.le_of_ble_eq_true rfl) ?_
  intro p e s m args below meth c ls hC hK hR hl
  have hS : va_S A s.heap s.heap [] := va_S.rf
  refine lv_iload_n hC.x hC.b dX9_show_0 rfl (lv_at hl 1 rfl) ?_
  refine lv_ldc hC.x hC.b hC.ow (hC.ts _ TK_X9_148) dX9_show_1 ?_
  have av_1 : (1000000 : Int32).toInt = 1000000 := by decide
  refine goip (runS (As := [.int xa, .int (1000000 : Int32)]) (rest := []) hC hK hR hl.1 (c_X9_isWithin l hG σ τ xa (1000000 : Int32) (by first | decide | omega)) (call_b hC.ts TC_X9_isWithin TN_X9 TM_X9_119 hd_X9_isWithin ⟨Nat.le_of_ble_eq_true rfl, Nat.le_of_ble_eq_true rfl⟩) TT_X9_isWithin rfl rfl (Nat.le_of_ble_eq_true rfl) dX9_show_3 ⟨Nat.le_of_ble_eq_true rfl, Nat.le_of_ble_eq_true rfl⟩) hS (fun v_2 H locs w_3 hR hS => ?_)
  rcases w_3 with ⟨rfl, f_4, f_5⟩ | ⟨rfl, f_6⟩
  · skip
    refine bz_ne (tgt := 11) (a := 1) (b := 0) hC.x hC.b rfl rfl dX9_show_6 (by decide) (fun _ => ?_) (fun c_7 => absurd c_7 (by decide))
    refine lv_aload_n hC.x hC.b dX9_show_11 rfl (lv_at hl 0 rfl) ?_
    refine lv_iload_n hC.x hC.b dX9_show_12 rfl (lv_at hl 1 rfl) ?_
    refine rputi hC hK hG hR hS (ct_bench G _ _) rfl uin_X9 tyX9 tyX9_ok nmX9 12 (by decide) TF_X9_77 rfl (Or.inl rfl) (Nat.le_of_ble_eq_true rfl) rfl (ct_bench G _ _) dX9_show_13 (fun s_9 es_8 H locs hR hS => ?_)
    refine lv_iconst (v := 1) hC.x hC.b dX9_show_16 (by decide) ?_
    exact retz hC hK hR hS (Or.inr rfl) (by first | exact Or.inr ((⟨by subst es_8; (first | rfl | omega), by subst es_8; (first | rfl | assumption), by subst es_8; (rfl), by subst es_8; (first | omega | assumption), by subst es_8; (first | omega | assumption)⟩)) | exact False.elim (by omega)) dX9_show_17
  · skip
    refine bz_ne (tgt := 11) (a := 0) (b := 0) hC.x hC.b rfl rfl dX9_show_6 (by decide) (fun c_10 => absurd c_10 (by decide)) (fun _ => ?_)
    refine lv_iconst (v := 0) hC.x hC.b dX9_show_9 (by decide) ?_
    exact retz hC hK hR hS (Or.inl rfl) (by first | exact Or.inl (⟨by first | rfl | omega, by first | rfl | assumption, by rfl, by first | omega | assumption⟩) | exact False.elim (by omega)) dX9_show_10

abbrev po_X9_off (σ : SI) (τ : SL) : Int32 → SI × SL → Prop := fun v u => u = (σ, τ) ∧ (((v = σ 0 12)))
set_option maxRecDepth 100000 in
set_option maxHeartbeats 4000000 in
theorem c_X9_off (l : Launch) {G : Gx} {A : Nat → Prop} (hG : GOk G A) (σ : SI) (τ : SL) : MI l G A 0 yX9_off cX9_off 1 (some .int) [.ref (G.2.1 0)] (σ, τ) (po_X9_off σ τ ) := by
  refine met_of (own := RX9) (by decide +kernel) rfl [(0, .ref (G.2.1 0))] rfl (Nat.le_of_ble_eq_true rfl) ?_
  intro p e s m args below meth c ls hC hK hR hl
  have hS : va_S A s.heap s.heap [] := va_S.rf
  refine lv_aload_n hC.x hC.b dX9_off_0 rfl (lv_at hl 0 rfl) ?_
  refine rget hC hK hR (ct_bench G _ _) rfl uin_X9 12 (by decide) TF_X9_77 rfl dX9_off_1 ?_
  exact reti hC hK hR hS ⟨rfl, (by first | rfl | omega)⟩ dX9_off_4

abbrev po_X9_ring (σ : SI) (τ : SL) (xa : Int32) (ya : Int32) (za : Int32) (hr : Int32) : Int32 → SI × SL → Prop := fun v u => u = (σ, τ) ∧ (True)
set_option maxRecDepth 100000 in
set_option maxHeartbeats 4000000 in
theorem c_X9_ring (l : Launch) {G : Gx} {A : Nat → Prop} (hG : GOk G A) (σ : SI) (τ : SL) (xa : Int32) (ya : Int32) (za : Int32) (hr : Int32) : MI l G A 3 yX9_ring cX9_ring 8 (some .int) [.ref (G.2.1 0), .int xa, .int ya, .int za, .int hr] (σ, τ) (po_X9_ring σ τ xa ya za hr) := by
  refine met_of (own := RX9) (by decide +kernel) rfl [(0, .ref (G.2.1 0)), (1, .int xa), (2, .int ya), (3, .int za), (4, .int hr)] rfl (Nat.le_of_ble_eq_true rfl) ?_
  intro p e s m args below meth c ls hC hK hR hl
  have hS : va_S A s.heap s.heap [] := va_S.rf
  refine lv_aload_n hC.x hC.b dX9_ring_0 rfl (lv_at hl 0 rfl) ?_
  refine lv_iload hC.x hC.b dX9_ring_1 (lv_at hl 4 rfl) ?_
  refine goip (runV (As := [.int hr]) (rest := []) hC hK hR hl.1 (c_X9_hasCome l hG σ τ hr ) (call_b hC.ts TC_X9_hasCome TN_X9 TM_X9_142 hd_X9_hasCome ⟨Nat.le_of_ble_eq_true rfl, Nat.le_of_ble_eq_true rfl⟩) TI_X9_hasCome TS_X9_hasCome (ct_bench G _ _) rfl rfl rfl (Nat.le_of_ble_eq_true rfl) dX9_ring_3 ⟨Nat.le_of_ble_eq_true rfl, Nat.le_of_ble_eq_true rfl⟩) hS (fun v_1 H locs w_2 hR hS => ?_)
  rcases w_2 with ⟨rfl, f_3, f_4⟩ | ⟨rfl, f_5⟩
  · skip
    refine bz_ne (tgt := 12) (a := 1) (b := 0) hC.x hC.b rfl rfl dX9_ring_6 (by decide) (fun _ => ?_) (fun c_6 => absurd c_6 (by decide))
    refine lv_aload_n hC.x hC.b dX9_ring_12 rfl (lv_at hl 0 rfl) ?_
    refine rget hC hK hR (ct_bench G _ _) rfl uin_X9 0 (by decide) TF_X9_10 rfl dX9_ring_13 ?_
    refine lv_iload_n hC.x hC.b dX9_ring_16 rfl (lv_at hl 1 rfl) ?_
    refine lv_iload_n hC.x hC.b dX9_ring_17 rfl (lv_at hl 2 rfl) ?_
    refine lv_iload hC.x hC.b dX9_ring_18 (lv_at hl 4 rfl) ?_
    refine goip (runV (As := [.int xa, .int ya, .int hr]) (rest := []) hC hK hR hl.1 (c_X5_toldBetween l hG σ τ xa ya hr ) (call_b hC.ts TC_X5_toldBetween TN_X5 TM_X9_266 hd_X5_toldBetween ⟨Nat.le_of_ble_eq_true rfl, Nat.le_of_ble_eq_true rfl⟩) TI_X5_toldBetween TS_X5_toldBetween (ct_shelf G _ _) rfl rfl rfl (Nat.le_of_ble_eq_true rfl) dX9_ring_20 ⟨Nat.le_of_ble_eq_true rfl, Nat.le_of_ble_eq_true rfl⟩) hS (fun v_7 H locs w_8 hR hS => ?_)
    refine lv_istore (lv' := [(5, .int v_7), (0, .ref (G.2.1 0)), (1, .int xa), (2, .int ya), (3, .int za), (4, .int hr)]) hC.x hC.b dX9_ring_23 hl (by decide) rfl (fun ls hl => ?_)
    refine lv_aload_n hC.x hC.b dX9_ring_25 rfl (lv_at hl 1 rfl) ?_
    refine rget hC hK hR (ct_bench G _ _) rfl uin_X9 0 (by decide) TF_X9_10 rfl dX9_ring_26 ?_
    refine lv_iload_n hC.x hC.b dX9_ring_29 rfl (lv_at hl 3 rfl) ?_
    refine lv_iload_n hC.x hC.b dX9_ring_30 rfl (lv_at hl 4 rfl) ?_
    refine lv_iload hC.x hC.b dX9_ring_31 (lv_at hl 5 rfl) ?_
    refine goip (runV (As := [.int ya, .int za, .int hr]) (rest := []) hC hK hR hl.1 (c_X5_toldBetween l hG σ τ ya za hr ) (call_b hC.ts TC_X5_toldBetween TN_X5 TM_X9_266 hd_X5_toldBetween ⟨Nat.le_of_ble_eq_true rfl, Nat.le_of_ble_eq_true rfl⟩) TI_X5_toldBetween TS_X5_toldBetween (ct_shelf G _ _) rfl rfl rfl (Nat.le_of_ble_eq_true rfl) dX9_ring_33 ⟨Nat.le_of_ble_eq_true rfl, Nat.le_of_ble_eq_true rfl⟩) hS (fun v_9 H locs w_10 hR hS => ?_)
    refine lv_istore (lv' := [(6, .int v_9), (5, .int v_7), (0, .ref (G.2.1 0)), (1, .int xa), (2, .int ya), (3, .int za), (4, .int hr)]) hC.x hC.b dX9_ring_36 hl (by decide) rfl (fun ls hl => ?_)
    refine lv_aload_n hC.x hC.b dX9_ring_38 rfl (lv_at hl 2 rfl) ?_
    refine rget hC hK hR (ct_bench G _ _) rfl uin_X9 0 (by decide) TF_X9_10 rfl dX9_ring_39 ?_
    refine lv_iload_n hC.x hC.b dX9_ring_42 rfl (lv_at hl 5 rfl) ?_
    refine lv_iload_n hC.x hC.b dX9_ring_43 rfl (lv_at hl 3 rfl) ?_
    refine lv_iload hC.x hC.b dX9_ring_44 (lv_at hl 6 rfl) ?_
    refine goip (runV (As := [.int za, .int xa, .int hr]) (rest := []) hC hK hR hl.1 (c_X5_toldBetween l hG σ τ za xa hr ) (call_b hC.ts TC_X5_toldBetween TN_X5 TM_X9_266 hd_X5_toldBetween ⟨Nat.le_of_ble_eq_true rfl, Nat.le_of_ble_eq_true rfl⟩) TI_X5_toldBetween TS_X5_toldBetween (ct_shelf G _ _) rfl rfl rfl (Nat.le_of_ble_eq_true rfl) dX9_ring_46 ⟨Nat.le_of_ble_eq_true rfl, Nat.le_of_ble_eq_true rfl⟩) hS (fun v_11 H locs w_12 hR hS => ?_)
    refine lv_istore (lv' := [(7, .int v_11), (6, .int v_9), (5, .int v_7), (0, .ref (G.2.1 0)), (1, .int xa), (2, .int ya), (3, .int za), (4, .int hr)]) hC.x hC.b dX9_ring_49 hl (by decide) rfl (fun ls hl => ?_)
    refine lv_iload hC.x hC.b dX9_ring_51 (lv_at hl 2 rfl) ?_
    refine lv_ldc hC.x hC.b hC.ow (hC.ts _ TK_X9_148) dX9_ring_53 ?_
    refine bi_eq (tgt := 72) (a := v_7.toInt) (b := 1000000) hC.x hC.b rfl rfl dX9_ring_55 (by decide) (fun c_13 => ?_) (fun c_13 => ?_)
    · skip
      refine lv_ldc hC.x hC.b hC.ow (hC.ts _ TK_X9_148) dX9_ring_72 ?_
      refine lv_goto (tgt := 85) hC.x hC.b dX9_ring_74 (by decide) ?_
      exact reti hC hK hR hS ⟨rfl, (trivial)⟩ dX9_ring_85
    · skip
      refine lv_iload hC.x hC.b dX9_ring_58 (lv_at hl 1 rfl) ?_
      refine lv_ldc hC.x hC.b hC.ow (hC.ts _ TK_X9_148) dX9_ring_60 ?_
      refine bi_eq (tgt := 72) (a := v_9.toInt) (b := 1000000) hC.x hC.b rfl rfl dX9_ring_62 (by decide) (fun c_14 => ?_) (fun c_14 => ?_)
      · skip
        refine lv_ldc hC.x hC.b hC.ow (hC.ts _ TK_X9_148) dX9_ring_72 ?_
        refine lv_goto (tgt := 85) hC.x hC.b dX9_ring_74 (by decide) ?_
        exact reti hC hK hR hS ⟨rfl, (trivial)⟩ dX9_ring_85
      · skip
        refine lv_iload hC.x hC.b dX9_ring_65 (lv_at hl 0 rfl) ?_
        refine lv_ldc hC.x hC.b hC.ow (hC.ts _ TK_X9_148) dX9_ring_67 ?_
        refine bi_ne (tgt := 77) (a := v_11.toInt) (b := 1000000) hC.x hC.b rfl rfl dX9_ring_69 (by decide) (fun c_15 => ?_) (fun c_15 => ?_)
        · skip
          refine lv_iload hC.x hC.b dX9_ring_77 (lv_at hl 2 rfl) ?_
          refine lv_iload hC.x hC.b dX9_ring_79 (lv_at hl 1 rfl) ?_
          refine lv_iadd hC.x hC.b dX9_ring_81 ?_
          refine lv_iload hC.x hC.b dX9_ring_82 (lv_at hl 0 rfl) ?_
          refine lv_iadd hC.x hC.b dX9_ring_84 ?_
          exact reti hC hK hR hS ⟨rfl, (trivial)⟩ dX9_ring_85
        · skip
          refine lv_ldc hC.x hC.b hC.ow (hC.ts _ TK_X9_148) dX9_ring_72 ?_
          refine lv_goto (tgt := 85) hC.x hC.b dX9_ring_74 (by decide) ?_
          exact reti hC hK hR hS ⟨rfl, (trivial)⟩ dX9_ring_85
  · skip
    refine bz_ne (tgt := 12) (a := 0) (b := 0) hC.x hC.b rfl rfl dX9_ring_6 (by decide) (fun c_16 => absurd c_16 (by decide)) (fun _ => ?_)
    refine lv_ldc hC.x hC.b hC.ow (hC.ts _ TK_X9_148) dX9_ring_9 ?_
    exact reti hC hK hR hS ⟨rfl, (trivial)⟩ dX9_ring_11
