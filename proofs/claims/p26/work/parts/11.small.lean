abbrev po_X9_isPlace (σ : SI) (τ : SL) (pl : Int32) : Int32 → SI × SL → Prop := fun v u => u = (σ, τ) ∧ (((v = (1)) ∧ (0 ≤ pl.toInt) ∧ (pl.toInt < 24)) ∨ ((v = (0)) ∧ (¬ (0 ≤ pl.toInt ∧ pl.toInt < 24))))
set_option maxRecDepth 100000 in
set_option maxHeartbeats 4000000 in
theorem c_X9_isPlace (l : Launch) {G : Gx} {A : Nat → Prop} (hG : GOk G A) (σ : SI) (τ : SL) (pl : Int32) : MI l G A 0 yX9_isPlace cX9_isPlace 1 (some .boolean) [.int pl] (σ, τ) (po_X9_isPlace σ τ pl) := by
  refine met_of (own := RX9) (by decide +kernel) rfl [(0, .int pl)] rfl (Nat.le_of_ble_eq_true rfl) ?_
  intro p e s m args below meth c ls hC hK hR hl
  have hS : va_S A s.heap s.heap [] := va_S.rf
  refine lv_iload_n hC.x hC.b dX9_isPlace_0 rfl (lv_at hl 0 rfl) ?_
  refine bz_lt (tgt := 14) (a := pl.toInt) (b := 0) hC.x hC.b rfl rfl dX9_isPlace_1 (by decide) (fun c_1 => ?_) (fun c_1 => ?_)
  · skip
    refine lv_iconst (v := 0) hC.x hC.b dX9_isPlace_14 (by decide) ?_
    exact retz hC hK hR hS (Or.inl rfl) ⟨rfl, (by first | exact Or.inr ((⟨by first | rfl | omega, by first | omega | assumption⟩)) | exact False.elim (by omega))⟩ dX9_isPlace_15
  · skip
    refine lv_iload_n hC.x hC.b dX9_isPlace_4 rfl (lv_at hl 0 rfl) ?_
    refine lv_bipush (v := 24) hC.x hC.b dX9_isPlace_5 (by decide) ?_
    refine bi_ge (tgt := 14) (a := pl.toInt) (b := 24) hC.x hC.b rfl rfl dX9_isPlace_7 (by decide) (fun c_2 => ?_) (fun c_2 => ?_)
    · skip
      refine lv_iconst (v := 0) hC.x hC.b dX9_isPlace_14 (by decide) ?_
      exact retz hC hK hR hS (Or.inl rfl) ⟨rfl, (by first | exact Or.inr ((⟨by first | rfl | omega, by first | omega | assumption⟩)) | exact False.elim (by omega))⟩ dX9_isPlace_15
    · skip
      refine lv_iconst (v := 1) hC.x hC.b dX9_isPlace_10 (by decide) ?_
      refine lv_goto (tgt := 15) hC.x hC.b dX9_isPlace_11 (by decide) ?_
      exact retz hC hK hR hS (Or.inr rfl) ⟨rfl, (by first | exact Or.inl (⟨by first | rfl | omega, by first | omega | assumption, by first | omega | assumption⟩) | exact False.elim (by omega))⟩ dX9_isPlace_15

abbrev po_X9_isClockKind (σ : SI) (τ : SL) (kd : Int32) : Int32 → SI × SL → Prop := fun v u => u = (σ, τ) ∧ (((v = (1)) ∧ (0 ≤ kd.toInt) ∧ (kd.toInt ≤ 3)) ∨ ((v = (0)) ∧ (¬ (0 ≤ kd.toInt ∧ kd.toInt ≤ 3))))
set_option maxRecDepth 100000 in
set_option maxHeartbeats 4000000 in
theorem c_X9_isClockKind (l : Launch) {G : Gx} {A : Nat → Prop} (hG : GOk G A) (σ : SI) (τ : SL) (kd : Int32) : MI l G A 0 yX9_isClockKind cX9_isClockKind 1 (some .boolean) [.int kd] (σ, τ) (po_X9_isClockKind σ τ kd) := by
  refine met_of (own := RX9) (by decide +kernel) rfl [(0, .int kd)] rfl (Nat.le_of_ble_eq_true rfl) ?_
  intro p e s m args below meth c ls hC hK hR hl
  have hS : va_S A s.heap s.heap [] := va_S.rf
  refine lv_iload_n hC.x hC.b dX9_isClockKind_0 rfl (lv_at hl 0 rfl) ?_
  refine bz_lt (tgt := 13) (a := kd.toInt) (b := 0) hC.x hC.b rfl rfl dX9_isClockKind_1 (by decide) (fun c_1 => ?_) (fun c_1 => ?_)
  · skip
    refine lv_iconst (v := 0) hC.x hC.b dX9_isClockKind_13 (by decide) ?_
    exact retz hC hK hR hS (Or.inl rfl) ⟨rfl, (by first | exact Or.inr ((⟨by first | rfl | omega, by first | omega | assumption⟩)) | exact False.elim (by omega))⟩ dX9_isClockKind_14
  · skip
    refine lv_iload_n hC.x hC.b dX9_isClockKind_4 rfl (lv_at hl 0 rfl) ?_
    refine lv_iconst (v := 3) hC.x hC.b dX9_isClockKind_5 (by decide) ?_
    refine bi_gt (tgt := 13) (a := kd.toInt) (b := 3) hC.x hC.b rfl rfl dX9_isClockKind_6 (by decide) (fun c_2 => ?_) (fun c_2 => ?_)
    · skip
      refine lv_iconst (v := 0) hC.x hC.b dX9_isClockKind_13 (by decide) ?_
      exact retz hC hK hR hS (Or.inl rfl) ⟨rfl, (by first | exact Or.inr ((⟨by first | rfl | omega, by first | omega | assumption⟩)) | exact False.elim (by omega))⟩ dX9_isClockKind_14
    · skip
      refine lv_iconst (v := 1) hC.x hC.b dX9_isClockKind_9 (by decide) ?_
      refine lv_goto (tgt := 14) hC.x hC.b dX9_isClockKind_10 (by decide) ?_
      exact retz hC hK hR hS (Or.inr rfl) ⟨rfl, (by first | exact Or.inl (⟨by first | rfl | omega, by first | omega | assumption, by first | omega | assumption⟩) | exact False.elim (by omega))⟩ dX9_isClockKind_14

abbrev po_X9_isLinkKind (σ : SI) (τ : SL) (kd : Int32) : Int32 → SI × SL → Prop := fun v u => u = (σ, τ) ∧ (((v = (1)) ∧ (4 ≤ kd.toInt) ∧ (kd.toInt ≤ 6)) ∨ ((v = (0)) ∧ (¬ (4 ≤ kd.toInt ∧ kd.toInt ≤ 6))))
set_option maxRecDepth 100000 in
set_option maxHeartbeats 4000000 in
theorem c_X9_isLinkKind (l : Launch) {G : Gx} {A : Nat → Prop} (hG : GOk G A) (σ : SI) (τ : SL) (kd : Int32) : MI l G A 0 yX9_isLinkKind cX9_isLinkKind 1 (some .boolean) [.int kd] (σ, τ) (po_X9_isLinkKind σ τ kd) := by
  refine met_of (own := RX9) (by decide +kernel) rfl [(0, .int kd)] rfl (Nat.le_of_ble_eq_true rfl) ?_
  intro p e s m args below meth c ls hC hK hR hl
  have hS : va_S A s.heap s.heap [] := va_S.rf
  refine lv_iload_n hC.x hC.b dX9_isLinkKind_0 rfl (lv_at hl 0 rfl) ?_
  refine lv_iconst (v := 4) hC.x hC.b dX9_isLinkKind_1 (by decide) ?_
  refine bi_lt (tgt := 15) (a := kd.toInt) (b := 4) hC.x hC.b rfl rfl dX9_isLinkKind_2 (by decide) (fun c_1 => ?_) (fun c_1 => ?_)
  · skip
    refine lv_iconst (v := 0) hC.x hC.b dX9_isLinkKind_15 (by decide) ?_
    exact retz hC hK hR hS (Or.inl rfl) ⟨rfl, (by first | exact Or.inr ((⟨by first | rfl | omega, by first | omega | assumption⟩)) | exact False.elim (by omega))⟩ dX9_isLinkKind_16
  · skip
    refine lv_iload_n hC.x hC.b dX9_isLinkKind_5 rfl (lv_at hl 0 rfl) ?_
    refine lv_bipush (v := 6) hC.x hC.b dX9_isLinkKind_6 (by decide) ?_
    refine bi_gt (tgt := 15) (a := kd.toInt) (b := 6) hC.x hC.b rfl rfl dX9_isLinkKind_8 (by decide) (fun c_2 => ?_) (fun c_2 => ?_)
    · skip
      refine lv_iconst (v := 0) hC.x hC.b dX9_isLinkKind_15 (by decide) ?_
      exact retz hC hK hR hS (Or.inl rfl) ⟨rfl, (by first | exact Or.inr ((⟨by first | rfl | omega, by first | omega | assumption⟩)) | exact False.elim (by omega))⟩ dX9_isLinkKind_16
    · skip
      refine lv_iconst (v := 1) hC.x hC.b dX9_isLinkKind_11 (by decide) ?_
      refine lv_goto (tgt := 16) hC.x hC.b dX9_isLinkKind_12 (by decide) ?_
      exact retz hC hK hR hS (Or.inr rfl) ⟨rfl, (by first | exact Or.inl (⟨by first | rfl | omega, by first | omega | assumption, by first | omega | assumption⟩) | exact False.elim (by omega))⟩ dX9_isLinkKind_16

abbrev po_X9_isWithin (σ : SI) (τ : SL) (xa : Int32) (mo : Int32) : Int32 → SI × SL → Prop := fun v u => u = (σ, τ) ∧ (((v = (1)) ∧ (-mo.toInt ≤ xa.toInt) ∧ (xa.toInt ≤ mo.toInt)) ∨ ((v = (0)) ∧ (¬ (-mo.toInt ≤ xa.toInt ∧ xa.toInt ≤ mo.toInt))))
set_option maxRecDepth 100000 in
set_option maxHeartbeats 4000000 in
theorem c_X9_isWithin (l : Launch) {G : Gx} {A : Nat → Prop} (hG : GOk G A) (σ : SI) (τ : SL) (xa : Int32) (mo : Int32) (hmo : -2147483648 < mo.toInt) : MI l G A 0 yX9_isWithin cX9_isWithin 2 (some .boolean) [.int xa, .int mo] (σ, τ) (po_X9_isWithin σ τ xa mo) := by
  refine met_of (own := RX9) (by decide +kernel) rfl [(0, .int xa), (1, .int mo)] rfl (Nat.le_of_ble_eq_true rfl) ?_
  intro p e s m args below meth c ls hC hK hR hl
  have hS : va_S A s.heap s.heap [] := va_S.rf
  refine lv_iload_n hC.x hC.b dX9_isWithin_0 rfl (lv_at hl 0 rfl) ?_
  refine lv_iload_n hC.x hC.b dX9_isWithin_1 rfl (lv_at hl 1 rfl) ?_
  refine lv_ineg hC.x hC.b dX9_isWithin_2 ?_
  have pr_1 : (-mo).toInt = (-mo.toInt) := negI rfl (by omega)
  refine bi_lt (tgt := 15) (a := xa.toInt) (b := (-mo.toInt)) hC.x hC.b rfl pr_1 dX9_isWithin_3 (by decide) (fun c_2 => ?_) (fun c_2 => ?_)
  · skip
    refine lv_iconst (v := 0) hC.x hC.b dX9_isWithin_15 (by decide) ?_
    exact retz hC hK hR hS (Or.inl rfl) ⟨rfl, (by first | exact Or.inr ((⟨by first | rfl | omega, by first | omega | assumption⟩)) | exact False.elim (by omega))⟩ dX9_isWithin_16
  · skip
    refine lv_iload_n hC.x hC.b dX9_isWithin_6 rfl (lv_at hl 0 rfl) ?_
    refine lv_iload_n hC.x hC.b dX9_isWithin_7 rfl (lv_at hl 1 rfl) ?_
    refine bi_gt (tgt := 15) (a := xa.toInt) (b := mo.toInt) hC.x hC.b rfl rfl dX9_isWithin_8 (by decide) (fun c_3 => ?_) (fun c_3 => ?_)
    · skip
      refine lv_iconst (v := 0) hC.x hC.b dX9_isWithin_15 (by decide) ?_
      exact retz hC hK hR hS (Or.inl rfl) ⟨rfl, (by first | exact Or.inr ((⟨by first | rfl | omega, by first | omega | assumption⟩)) | exact False.elim (by omega))⟩ dX9_isWithin_16
    · skip
      refine lv_iconst (v := 1) hC.x hC.b dX9_isWithin_11 (by decide) ?_
      refine lv_goto (tgt := 16) hC.x hC.b dX9_isWithin_12 (by decide) ?_
      exact retz hC hK hR hS (Or.inr rfl) ⟨rfl, (by first | exact Or.inl (⟨by first | rfl | omega, by first | omega | assumption, by first | omega | assumption⟩) | exact False.elim (by omega))⟩ dX9_isWithin_16

abbrev po_X9_cut (σ : SI) (τ : SL) (xa : Int64) (mo : Int32) : Int32 → SI × SL → Prop := fun v u => u = (σ, τ) ∧ (((v.toInt = max (-mo.toInt) (min mo.toInt xa.toInt))))
set_option maxRecDepth 100000 in
set_option maxHeartbeats 4000000 in
theorem c_X9_cut (l : Launch) {G : Gx} {A : Nat → Prop} (hG : GOk G A) (σ : SI) (τ : SL) (xa : Int64) (mo : Int32) (hmo : 0 ≤ mo.toInt) : MI l G A 1 yX9_cut cX9_cut 3 (some .int) [.long xa, .int mo] (σ, τ) (po_X9_cut σ τ xa mo) := by
  refine met_of (own := RX9) (by decide +kernel) rfl [(0, .long xa), (2, .int mo)] rfl (Nat.le_of_ble_eq_true rfl) ?_
  intro p e s m args below meth c ls hC hK hR hl
  have hS : va_S A s.heap s.heap [] := va_S.rf
  have hmh := i32_hi mo
  refine lv_iload_n hC.x hC.b dX9_cut_0 rfl (lv_at hl 1 rfl) ?_
  refine lv_ineg hC.x hC.b dX9_cut_1 ?_
  have pr_1 : (-mo).toInt = (-mo.toInt) := negI rfl (by omega)
  refine lv_i2l hC.x hC.b dX9_cut_2 rfl ?_
  refine lv_iload_n hC.x hC.b dX9_cut_3 rfl (lv_at hl 1 rfl) ?_
  refine lv_i2l hC.x hC.b dX9_cut_4 rfl ?_
  refine lv_lload_n hC.x hC.b dX9_cut_5 rfl (lv_at hl 0 rfl) ?_
  have av_2 : mo.toInt64.toInt = mo.toInt := (i2lI rfl)
  refine golp (runS (As := [.long mo.toInt64, .long xa]) (rest := [.long ((-mo).toInt64)]) hC hK hR hl.1 (c_J9_min_f86c9 l hG σ τ mo.toInt64 xa ) (call_b hC.ts TC_J9_min_f86c9 TN_J9 TM_X9_278 hd_J9_min_f86c9 ⟨Nat.le_of_ble_eq_true rfl, Nat.le_of_ble_eq_true rfl⟩) TT_J9_min_f86c9 rfl rfl (Nat.le_of_ble_eq_true rfl) dX9_cut_6 ⟨Nat.le_of_ble_eq_true rfl, Nat.le_of_ble_eq_true rfl⟩) hS (fun v_3 H locs w_4 hR hS => ?_)
  have f_5 := w_4
  have av_6 : ((-mo).toInt64).toInt = (-mo.toInt) := (i2lI pr_1)
  refine golp (runS (As := [.long ((-mo).toInt64), .long v_3]) (rest := []) hC hK hR hl.1 (c_J9_max_f86c9 l hG σ τ ((-mo).toInt64) v_3 ) (call_b hC.ts TC_J9_max_f86c9 TN_J9 TM_X9_281 hd_J9_max_f86c9 ⟨Nat.le_of_ble_eq_true rfl, Nat.le_of_ble_eq_true rfl⟩) TT_J9_max_f86c9 rfl rfl (Nat.le_of_ble_eq_true rfl) dX9_cut_9 ⟨Nat.le_of_ble_eq_true rfl, Nat.le_of_ble_eq_true rfl⟩) hS (fun v_7 H locs w_8 hR hS => ?_)
  have f_9 := w_8
  refine lv_l2i hC.x hC.b dX9_cut_12 rfl ?_
  have pr_10 : v_7.toInt32.toInt = v_7.toInt := l2iI rfl (by omega) (by omega)
  exact reti hC hK hR hS ⟨rfl, (by first | omega | assumption)⟩ dX9_cut_13

abbrev po_X0_beginAnew (σ : SI) (τ : SL) (q : Nat) (hr : Int32) : SI × SL → Prop := fun u => ((u.1 = (up2 (up2 (up2 σ (80 + q) 8 hr) (80 + q) 7 0) (80 + q) 9 (-10))) ∧ (u.2 = τ))
set_option maxRecDepth 100000 in
set_option maxHeartbeats 4000000 in
theorem c_X0_beginAnew (l : Launch) {G : Gx} {A : Nat → Prop} (hG : GOk G A) (σ : SI) (τ : SL) (q : Nat) (hq : q < 24) (hr : Int32) : MV l G A 0 yX0_beginAnew cX0_beginAnew 2 none [.ref (G.2.1 (80 + q)), .int hr] (σ, τ) (po_X0_beginAnew σ τ q hr) := by
  refine met_of (own := RX0) (by decide +kernel) rfl [(0, .ref (G.2.1 (80 + q))), (1, .int hr)] rfl (Nat.le_of_ble_eq_true rfl) ?_
  intro p e s m args below meth c ls hC hK hR hl
  have hS : va_S A s.heap s.heap [] := va_S.rf
  refine lv_aload_n hC.x hC.b dX0_beginAnew_0 rfl (lv_at hl 0 rfl) ?_
  refine lv_iload_n hC.x hC.b dX0_beginAnew_1 rfl (lv_at hl 1 rfl) ?_
  refine rputi hC hK hG hR hS (ct_clock hq G _ _) rfl uin_X0 tyX0 tyX0_ok nmX0 8 (by decide) TF_X0_34 rfl (Or.inl rfl) (Nat.le_of_ble_eq_true rfl) rfl (ct_clock hq G _ _) dX0_beginAnew_2 (fun s_2 es_1 H locs hR hS => ?_)
  refine lv_aload_n hC.x hC.b dX0_beginAnew_5 rfl (lv_at hl 0 rfl) ?_
  refine lv_iconst (v := 0) hC.x hC.b dX0_beginAnew_6 (by decide) ?_
  refine rputi hC hK hG hR hS (ct_clock hq G _ _) rfl uin_X0 tyX0 tyX0_ok nmX0 7 (by decide) TF_X0_31 rfl (Or.inr ⟨rfl, (Or.inl rfl)⟩) (Nat.le_of_ble_eq_true rfl) rfl (ct_clock hq G _ _) dX0_beginAnew_7 (fun s_4 es_3 H locs hR hS => ?_)
  refine lv_aload_n hC.x hC.b dX0_beginAnew_10 rfl (lv_at hl 0 rfl) ?_
  refine lv_bipush (v := (-10)) hC.x hC.b dX0_beginAnew_11 (by decide) ?_
  refine rputi hC hK hG hR hS (ct_clock hq G _ _) rfl uin_X0 tyX0 tyX0_ok nmX0 9 (by decide) TF_X0_37 rfl (Or.inl rfl) (Nat.le_of_ble_eq_true rfl) rfl (ct_clock hq G _ _) dX0_beginAnew_13 (fun s_6 es_5 H locs hR hS => ?_)
  exact retv hC hK hR hS (⟨by subst es_5; subst es_3; subst es_1; (first | rfl | assumption), by subst es_5; subst es_3; subst es_1; (rfl)⟩) dX0_beginAnew_16

abbrev po_X0_lay (σ : SI) (τ : SL) (q : Nat) (ka : Int32) (sa : Int32) (ra : Int32) (hr : Int32) : SI × SL → Prop := fun u => ((u.1 = (up2 (up2 (up2 (up2 (up2 (up2 (up2 (up2 (up2 (up2 (up2 σ (80 + q) 1 ka) (80 + q) 2 sa) (80 + q) 3 ra) (80 + q) 4 0) (80 + q) 5 0) (80 + q) 6 0) (80 + q) 10 0) (80 + q) 11 0) (80 + q) 8 hr) (80 + q) 7 0) (80 + q) 9 (-10))) ∧ (u.2 = τ))
set_option maxRecDepth 100000 in
set_option maxHeartbeats 4000000 in
theorem c_X0_lay (l : Launch) {G : Gx} {A : Nat → Prop} (hG : GOk G A) (σ : SI) (τ : SL) (q : Nat) (hq : q < 24) (ka : Int32) (sa : Int32) (ra : Int32) (hr : Int32) : MV l G A 1 yX0_lay cX0_lay 5 none [.ref (G.2.1 (80 + q)), .int ka, .int sa, .int ra, .int hr] (σ, τ) (po_X0_lay σ τ q ka sa ra hr) := by
  refine met_of (own := RX0) (by decide +kernel) rfl [(0, .ref (G.2.1 (80 + q))), (1, .int ka), (2, .int sa), (3, .int ra), (4, .int hr)] rfl (Nat.le_of_ble_eq_true rfl) ?_
  intro p e s m args below meth c ls hC hK hR hl
  have hS : va_S A s.heap s.heap [] := va_S.rf
  refine lv_aload_n hC.x hC.b dX0_lay_0 rfl (lv_at hl 0 rfl) ?_
  refine lv_iload_n hC.x hC.b dX0_lay_1 rfl (lv_at hl 1 rfl) ?_
  refine rputi hC hK hG hR hS (ct_clock hq G _ _) rfl uin_X0 tyX0 tyX0_ok nmX0 1 (by decide) TF_X0_9 rfl (Or.inl rfl) (Nat.le_of_ble_eq_true rfl) rfl (ct_clock hq G _ _) dX0_lay_2 (fun s_2 es_1 H locs hR hS => ?_)
  refine lv_aload_n hC.x hC.b dX0_lay_5 rfl (lv_at hl 0 rfl) ?_
  refine lv_iload_n hC.x hC.b dX0_lay_6 rfl (lv_at hl 2 rfl) ?_
  refine rputi hC hK hG hR hS (ct_clock hq G _ _) rfl uin_X0 tyX0 tyX0_ok nmX0 2 (by decide) TF_X0_15 rfl (Or.inl rfl) (Nat.le_of_ble_eq_true rfl) rfl (ct_clock hq G _ _) dX0_lay_7 (fun s_4 es_3 H locs hR hS => ?_)
  refine lv_aload_n hC.x hC.b dX0_lay_10 rfl (lv_at hl 0 rfl) ?_
  refine lv_iload_n hC.x hC.b dX0_lay_11 rfl (lv_at hl 3 rfl) ?_
  refine rputi hC hK hG hR hS (ct_clock hq G _ _) rfl uin_X0 tyX0 tyX0_ok nmX0 3 (by decide) TF_X0_18 rfl (Or.inl rfl) (Nat.le_of_ble_eq_true rfl) rfl (ct_clock hq G _ _) dX0_lay_12 (fun s_6 es_5 H locs hR hS => ?_)
  refine lv_aload_n hC.x hC.b dX0_lay_15 rfl (lv_at hl 0 rfl) ?_
  refine lv_iconst (v := 0) hC.x hC.b dX0_lay_16 (by decide) ?_
  refine rputi hC hK hG hR hS (ct_clock hq G _ _) rfl uin_X0 tyX0 tyX0_ok nmX0 4 (by decide) TF_X0_21 rfl (Or.inl rfl) (Nat.le_of_ble_eq_true rfl) rfl (ct_clock hq G _ _) dX0_lay_17 (fun s_8 es_7 H locs hR hS => ?_)
  refine lv_aload_n hC.x hC.b dX0_lay_20 rfl (lv_at hl 0 rfl) ?_
  refine lv_iconst (v := 0) hC.x hC.b dX0_lay_21 (by decide) ?_
  refine rputi hC hK hG hR hS (ct_clock hq G _ _) rfl uin_X0 tyX0 tyX0_ok nmX0 5 (by decide) TF_X0_24 rfl (Or.inr ⟨rfl, (Or.inl rfl)⟩) (Nat.le_of_ble_eq_true rfl) rfl (ct_clock hq G _ _) dX0_lay_22 (fun s_10 es_9 H locs hR hS => ?_)
  refine lv_aload_n hC.x hC.b dX0_lay_25 rfl (lv_at hl 0 rfl) ?_
  refine lv_iconst (v := 0) hC.x hC.b dX0_lay_26 (by decide) ?_
  refine rputi hC hK hG hR hS (ct_clock hq G _ _) rfl uin_X0 tyX0 tyX0_ok nmX0 6 (by decide) TF_X0_28 rfl (Or.inr ⟨rfl, (Or.inl rfl)⟩) (Nat.le_of_ble_eq_true rfl) rfl (ct_clock hq G _ _) dX0_lay_27 (fun s_12 es_11 H locs hR hS => ?_)
  refine lv_aload_n hC.x hC.b dX0_lay_30 rfl (lv_at hl 0 rfl) ?_
  refine lv_iconst (v := 0) hC.x hC.b dX0_lay_31 (by decide) ?_
  refine rputi hC hK hG hR hS (ct_clock hq G _ _) rfl uin_X0 tyX0 tyX0_ok nmX0 10 (by decide) TF_X0_40 rfl (Or.inl rfl) (Nat.le_of_ble_eq_true rfl) rfl (ct_clock hq G _ _) dX0_lay_32 (fun s_14 es_13 H locs hR hS => ?_)
  refine lv_aload_n hC.x hC.b dX0_lay_35 rfl (lv_at hl 0 rfl) ?_
  refine lv_iconst (v := 0) hC.x hC.b dX0_lay_36 (by decide) ?_
  refine rputi hC hK hG hR hS (ct_clock hq G _ _) rfl uin_X0 tyX0 tyX0_ok nmX0 11 (by decide) TF_X0_43 rfl (Or.inl rfl) (Nat.le_of_ble_eq_true rfl) rfl (ct_clock hq G _ _) dX0_lay_37 (fun s_16 es_15 H locs hR hS => ?_)
  refine lv_aload_n hC.x hC.b dX0_lay_40 rfl (lv_at hl 0 rfl) ?_
  refine lv_iload hC.x hC.b dX0_lay_41 (lv_at hl 4 rfl) ?_
  refine gov (runV (As := [.int hr]) (rest := []) hC hK hR hl.1 (c_X0_beginAnew l hG s_16 τ q hq hr ) (call_b hC.ts TC_X0_beginAnew TN_X0 TM_X0_49 hd_X0_beginAnew ⟨Nat.le_of_ble_eq_true rfl, Nat.le_of_ble_eq_true rfl⟩) TI_X0_beginAnew TS_X0_beginAnew (ct_clock hq G _ _) rfl rfl rfl (Nat.le_of_ble_eq_true rfl) dX0_lay_43 ⟨Nat.le_of_ble_eq_true rfl, Nat.le_of_ble_eq_true rfl⟩) hS (fun s_19 t_20 H locs w_18 hR hS => ?_)
  try dsimp only [po_X0_beginAnew] at w_18
  obtain ⟨es_21, et_22⟩ := w_18
  rw [et_22] at hR
  exact retv hC hK hR hS (⟨by subst es_21; subst es_15; subst es_13; subst es_11; subst es_9; subst es_7; subst es_5; subst es_3; subst es_1; (first | rfl | assumption), by subst es_21; subst es_15; subst es_13; subst es_11; subst es_9; subst es_7; subst es_5; subst es_3; subst es_1; (rfl)⟩) dX0_lay_46

abbrev po_X0_isTaken (σ : SI) (τ : SL) (q : Nat) : Int32 → SI × SL → Prop := fun v u => u = (σ, τ) ∧ (((v = (1)) ∧ ((σ (80 + q) 5).toInt ≠ 0) ∧ ((σ (80 + q) 1).toInt ≠ 3 ∨ (σ (80 + q) 6).toInt ≠ 0)) ∨ ((v = (0)) ∧ ((σ (80 + q) 5).toInt = 0 ∨ ((σ (80 + q) 1).toInt = 3 ∧ (σ (80 + q) 6).toInt = 0))))
set_option maxRecDepth 100000 in
set_option maxHeartbeats 4000000 in
theorem c_X0_isTaken (l : Launch) {G : Gx} {A : Nat → Prop} (hG : GOk G A) (σ : SI) (τ : SL) (q : Nat) (hq : q < 24) : MI l G A 0 yX0_isTaken cX0_isTaken 1 (some .boolean) [.ref (G.2.1 (80 + q))] (σ, τ) (po_X0_isTaken σ τ q) := by
  refine met_of (own := RX0) (by decide +kernel) rfl [(0, .ref (G.2.1 (80 + q)))] rfl (Nat.le_of_ble_eq_true rfl) ?_
  intro p e s m args below meth c ls hC hK hR hl
  have hS : va_S A s.heap s.heap [] := va_S.rf
  refine lv_aload_n hC.x hC.b dX0_isTaken_0 rfl (lv_at hl 0 rfl) ?_
  refine rget hC hK hR (ct_clock hq G _ _) rfl uin_X0 5 (by decide) TF_X0_24 rfl dX0_isTaken_1 ?_
  refine bz_eq (tgt := 26) (a := (σ (80 + q) 5).toInt) (b := 0) hC.x hC.b rfl rfl dX0_isTaken_4 (by decide) (fun c_1 => ?_) (fun c_1 => ?_)
  · skip
    refine lv_iconst (v := 0) hC.x hC.b dX0_isTaken_26 (by decide) ?_
    exact retz hC hK hR hS (Or.inl rfl) ⟨rfl, (by first | exact Or.inr ((⟨by first | rfl | omega, by first | omega | assumption⟩)) | exact False.elim (by omega))⟩ dX0_isTaken_27
  · skip
    refine lv_aload_n hC.x hC.b dX0_isTaken_7 rfl (lv_at hl 0 rfl) ?_
    refine rget hC hK hR (ct_clock hq G _ _) rfl uin_X0 1 (by decide) TF_X0_9 rfl dX0_isTaken_8 ?_
    refine lv_iconst (v := 3) hC.x hC.b dX0_isTaken_11 (by decide) ?_
    refine bi_ne (tgt := 22) (a := (σ (80 + q) 1).toInt) (b := 3) hC.x hC.b rfl rfl dX0_isTaken_12 (by decide) (fun c_2 => ?_) (fun c_2 => ?_)
    · skip
      refine lv_iconst (v := 1) hC.x hC.b dX0_isTaken_22 (by decide) ?_
      refine lv_goto (tgt := 27) hC.x hC.b dX0_isTaken_23 (by decide) ?_
      exact retz hC hK hR hS (Or.inr rfl) ⟨rfl, (by first | exact Or.inl (⟨by first | rfl | omega, by first | omega | assumption, by first | omega | assumption⟩) | exact False.elim (by omega))⟩ dX0_isTaken_27
    · skip
      refine lv_aload_n hC.x hC.b dX0_isTaken_15 rfl (lv_at hl 0 rfl) ?_
      refine rget hC hK hR (ct_clock hq G _ _) rfl uin_X0 6 (by decide) TF_X0_28 rfl dX0_isTaken_16 ?_
      refine bz_eq (tgt := 26) (a := (σ (80 + q) 6).toInt) (b := 0) hC.x hC.b rfl rfl dX0_isTaken_19 (by decide) (fun c_3 => ?_) (fun c_3 => ?_)
      · skip
        refine lv_iconst (v := 0) hC.x hC.b dX0_isTaken_26 (by decide) ?_
        exact retz hC hK hR hS (Or.inl rfl) ⟨rfl, (by first | exact Or.inr ((⟨by first | rfl | omega, by first | omega | assumption⟩)) | exact False.elim (by omega))⟩ dX0_isTaken_27
      · skip
        refine lv_iconst (v := 1) hC.x hC.b dX0_isTaken_22 (by decide) ?_
        refine lv_goto (tgt := 27) hC.x hC.b dX0_isTaken_23 (by decide) ?_
        exact retz hC hK hR hS (Or.inr rfl) ⟨rfl, (by first | exact Or.inl (⟨by first | rfl | omega, by first | omega | assumption, by first | omega | assumption⟩) | exact False.elim (by omega))⟩ dX0_isTaken_27

abbrev po_X0_isSteered (σ : SI) (τ : SL) (q : Nat) : Int32 → SI × SL → Prop := fun v u => u = (σ, τ) ∧ (((v = (1)) ∧ ((σ (80 + q) 1).toInt = 1 ∨ (σ (80 + q) 1).toInt = 3)) ∨ ((v = (0)) ∧ (¬ ((σ (80 + q) 1).toInt = 1 ∨ (σ (80 + q) 1).toInt = 3))))
set_option maxRecDepth 100000 in
set_option maxHeartbeats 4000000 in
theorem c_X0_isSteered (l : Launch) {G : Gx} {A : Nat → Prop} (hG : GOk G A) (σ : SI) (τ : SL) (q : Nat) (hq : q < 24) : MI l G A 0 yX0_isSteered cX0_isSteered 1 (some .boolean) [.ref (G.2.1 (80 + q))] (σ, τ) (po_X0_isSteered σ τ q) := by
  refine met_of (own := RX0) (by decide +kernel) rfl [(0, .ref (G.2.1 (80 + q)))] rfl (Nat.le_of_ble_eq_true rfl) ?_
  intro p e s m args below meth c ls hC hK hR hl
  have hS : va_S A s.heap s.heap [] := va_S.rf
  refine lv_aload_n hC.x hC.b dX0_isSteered_0 rfl (lv_at hl 0 rfl) ?_
  refine rget hC hK hR (ct_clock hq G _ _) rfl uin_X0 1 (by decide) TF_X0_9 rfl dX0_isSteered_1 ?_
  refine lv_iconst (v := 1) hC.x hC.b dX0_isSteered_4 (by decide) ?_
  refine bi_eq (tgt := 16) (a := (σ (80 + q) 1).toInt) (b := 1) hC.x hC.b rfl rfl dX0_isSteered_5 (by decide) (fun c_1 => ?_) (fun c_1 => ?_)
  · skip
    refine lv_iconst (v := 1) hC.x hC.b dX0_isSteered_16 (by decide) ?_
    refine lv_goto (tgt := 21) hC.x hC.b dX0_isSteered_17 (by decide) ?_
    exact retz hC hK hR hS (Or.inr rfl) ⟨rfl, (by first | exact Or.inl (⟨by first | rfl | omega, by first | omega | assumption⟩) | exact False.elim (by omega))⟩ dX0_isSteered_21
  · skip
    refine lv_aload_n hC.x hC.b dX0_isSteered_8 rfl (lv_at hl 0 rfl) ?_
    refine rget hC hK hR (ct_clock hq G _ _) rfl uin_X0 1 (by decide) TF_X0_9 rfl dX0_isSteered_9 ?_
    refine lv_iconst (v := 3) hC.x hC.b dX0_isSteered_12 (by decide) ?_
    refine bi_ne (tgt := 20) (a := (σ (80 + q) 1).toInt) (b := 3) hC.x hC.b rfl rfl dX0_isSteered_13 (by decide) (fun c_2 => ?_) (fun c_2 => ?_)
    · skip
      refine lv_iconst (v := 0) hC.x hC.b dX0_isSteered_20 (by decide) ?_
      exact retz hC hK hR hS (Or.inl rfl) ⟨rfl, (by first | exact Or.inr ((⟨by first | rfl | omega, by first | omega | assumption⟩)) | exact False.elim (by omega))⟩ dX0_isSteered_21
    · skip
      refine lv_iconst (v := 1) hC.x hC.b dX0_isSteered_16 (by decide) ?_
      refine lv_goto (tgt := 21) hC.x hC.b dX0_isSteered_17 (by decide) ?_
      exact retz hC hK hR hS (Or.inr rfl) ⟨rfl, (by first | exact Or.inl (⟨by first | rfl | omega, by first | omega | assumption⟩) | exact False.elim (by omega))⟩ dX0_isSteered_21

abbrev po_X3_count (σ : SI) (τ : SL) (k : Nat) : Int32 → SI × SL → Prop := fun v u => u = (σ, τ) ∧ (((v = σ k 0)))
set_option maxRecDepth 100000 in
set_option maxHeartbeats 4000000 in
theorem c_X3_count (l : Launch) {G : Gx} {A : Nat → Prop} (hG : GOk G A) (σ : SI) (τ : SL) (k : Nat) (hk : k = 19 ∨ k = 20) : MI l G A 0 yX3_count cX3_count 1 (some .int) [.ref (G.2.1 k)] (σ, τ) (po_X3_count σ τ k) := by
  refine met_of (own := RX3) (by decide +kernel) rfl [(0, .ref (G.2.1 k))] rfl (Nat.le_of_ble_eq_true rfl) ?_
  intro p e s m args below meth c ls hC hK hR hl
  have hS : va_S A s.heap s.heap [] := va_S.rf
  refine lv_aload_n hC.x hC.b dX3_count_0 rfl (lv_at hl 0 rfl) ?_
  refine rget hC hK hR (ct_line hk G _ _) rfl uin_X3 0 (by decide) TF_X3_7 rfl dX3_count_1 ?_
  exact reti hC hK hR hS ⟨rfl, (by first | rfl | omega)⟩ dX3_count_4

abbrev po_X3_clear (σ : SI) (τ : SL) (k : Nat) : SI × SL → Prop := fun u => ((Fr (fun k => 18 ≤ k ∧ k ≤ 20) σ u.1))
set_option maxRecDepth 100000 in
set_option maxHeartbeats 4000000 in
theorem c_X3_clear (l : Launch) {G : Gx} {A : Nat → Prop} (hG : GOk G A) (σ : SI) (τ : SL) (k : Nat) (hk : k = 19 ∨ k = 20) : MV l G A 0 yX3_clear cX3_clear 1 none [.ref (G.2.1 k)] (σ, τ) (po_X3_clear σ τ k) := by
  refine met_of (own := RX3) (by decide +kernel) rfl [(0, .ref (G.2.1 k))] rfl (Nat.le_of_ble_eq_true rfl) ?_
  intro p e s m args below meth c ls hC hK hR hl
  have hS : va_S A s.heap s.heap [] := va_S.rf
  refine lv_aload_n hC.x hC.b dX3_clear_0 rfl (lv_at hl 0 rfl) ?_
  refine lv_iconst (v := 0) hC.x hC.b dX3_clear_1 (by decide) ?_
  refine rputi hC hK hG hR hS (ct_line hk G _ _) rfl uin_X3 tyX3 tyX3_ok nmX3 0 (by decide) TF_X3_7 rfl (Or.inl rfl) (Nat.le_of_ble_eq_true rfl) rfl (ct_line hk G _ _) dX3_clear_2 (fun s_2 es_1 H locs hR hS => ?_)
  refine lv_aload_n hC.x hC.b dX3_clear_5 rfl (lv_at hl 0 rfl) ?_
  refine lv_lconst (v := 0) hC.x hC.b dX3_clear_6 (by decide) ?_
  refine rputl hC hK hG hR hS (ct_line hk G _ _) rfl uin_X3 tyX3 tyX3_ok nmX3 1 (by decide) TF_X3_13 rfl rfl (Nat.le_of_ble_eq_true rfl) rfl (ct_line hk G _ _) dX3_clear_7 (fun t_4 es_3 H locs hR hS => ?_)
  refine lv_aload_n hC.x hC.b dX3_clear_10 rfl (lv_at hl 0 rfl) ?_
  refine lv_lconst (v := 0) hC.x hC.b dX3_clear_11 (by decide) ?_
  refine rputl hC hK hG hR hS (ct_line hk G _ _) rfl uin_X3 tyX3 tyX3_ok nmX3 2 (by decide) TF_X3_17 rfl rfl (Nat.le_of_ble_eq_true rfl) rfl (ct_line hk G _ _) dX3_clear_12 (fun t_6 es_5 H locs hR hS => ?_)
  refine lv_aload_n hC.x hC.b dX3_clear_15 rfl (lv_at hl 0 rfl) ?_
  refine lv_lconst (v := 0) hC.x hC.b dX3_clear_16 (by decide) ?_
  refine rputl hC hK hG hR hS (ct_line hk G _ _) rfl uin_X3 tyX3 tyX3_ok nmX3 3 (by decide) TF_X3_20 rfl rfl (Nat.le_of_ble_eq_true rfl) rfl (ct_line hk G _ _) dX3_clear_17 (fun t_8 es_7 H locs hR hS => ?_)
  refine lv_aload_n hC.x hC.b dX3_clear_20 rfl (lv_at hl 0 rfl) ?_
  refine lv_lconst (v := 0) hC.x hC.b dX3_clear_21 (by decide) ?_
  refine rputl hC hK hG hR hS (ct_line hk G _ _) rfl uin_X3 tyX3 tyX3_ok nmX3 4 (by decide) TF_X3_23 rfl rfl (Nat.le_of_ble_eq_true rfl) rfl (ct_line hk G _ _) dX3_clear_22 (fun t_10 es_9 H locs hR hS => ?_)
  exact retv hC hK hR hS (by exact (by rw [es_1]; exact Fr.up (Fr.rf) (by first | omega | (dsimp only; omega)))) dX3_clear_25

abbrev po_X3_add (σ : SI) (τ : SL) (k : Nat) (ta : Int64) (xa : Int64) : SI × SL → Prop := fun u => ((Fr (fun k => 18 ≤ k ∧ k ≤ 20) σ u.1))
set_option maxRecDepth 100000 in
set_option maxHeartbeats 4000000 in
theorem c_X3_add (l : Launch) {G : Gx} {A : Nat → Prop} (hG : GOk G A) (σ : SI) (τ : SL) (k : Nat) (hk : k = 19 ∨ k = 20) (ta : Int64) (xa : Int64) : MV l G A 0 yX3_add cX3_add 5 none [.ref (G.2.1 k), .long ta, .long xa] (σ, τ) (po_X3_add σ τ k ta xa) := by
  refine met_of (own := RX3) (by decide +kernel) rfl [(0, .ref (G.2.1 k)), (1, .long ta), (3, .long xa)] rfl (Nat.le_of_ble_eq_true rfl) ?_
  intro p e s m args below meth c ls hC hK hR hl
  have hS : va_S A s.heap s.heap [] := va_S.rf
  refine lv_aload_n hC.x hC.b dX3_add_0 rfl (lv_at hl 0 rfl) ?_
  refine lv_dup hC.x hC.b dX3_add_1 rfl ?_
  refine rget hC hK hR (ct_line hk G _ _) rfl uin_X3 0 (by decide) TF_X3_7 rfl dX3_add_2 ?_
  refine lv_iconst (v := 1) hC.x hC.b dX3_add_5 (by decide) ?_
  refine lv_iadd hC.x hC.b dX3_add_6 ?_
  refine rputi hC hK hG hR hS (ct_line hk G _ _) rfl uin_X3 tyX3 tyX3_ok nmX3 0 (by decide) TF_X3_7 rfl (Or.inl rfl) (Nat.le_of_ble_eq_true rfl) rfl (ct_line hk G _ _) dX3_add_7 (fun s_2 es_1 H locs hR hS => ?_)
  refine lv_aload_n hC.x hC.b dX3_add_10 rfl (lv_at hl 0 rfl) ?_
  refine lv_dup hC.x hC.b dX3_add_11 rfl ?_
  refine rget hC hK hR (ct_line hk G _ _) rfl uin_X3 1 (by decide) TF_X3_13 rfl dX3_add_12 ?_
  refine lv_lload_n hC.x hC.b dX3_add_15 rfl (lv_at hl 1 rfl) ?_
  refine lv_ladd hC.x hC.b dX3_add_16 ?_
  refine rputl hC hK hG hR hS (ct_line hk G _ _) rfl uin_X3 tyX3 tyX3_ok nmX3 1 (by decide) TF_X3_13 rfl rfl (Nat.le_of_ble_eq_true rfl) rfl (ct_line hk G _ _) dX3_add_17 (fun t_4 es_3 H locs hR hS => ?_)
  refine lv_aload_n hC.x hC.b dX3_add_20 rfl (lv_at hl 0 rfl) ?_
  refine lv_dup hC.x hC.b dX3_add_21 rfl ?_
  refine rget hC hK hR (ct_line hk G _ _) rfl uin_X3 2 (by decide) TF_X3_17 rfl dX3_add_22 ?_
  refine lv_lload_n hC.x hC.b dX3_add_25 rfl (lv_at hl 2 rfl) ?_
  refine lv_ladd hC.x hC.b dX3_add_26 ?_
  refine rputl hC hK hG hR hS (ct_line hk G _ _) rfl uin_X3 tyX3 tyX3_ok nmX3 2 (by decide) TF_X3_17 rfl rfl (Nat.le_of_ble_eq_true rfl) rfl (ct_line hk G _ _) dX3_add_27 (fun t_6 es_5 H locs hR hS => ?_)
  refine lv_aload_n hC.x hC.b dX3_add_30 rfl (lv_at hl 0 rfl) ?_
  refine lv_dup hC.x hC.b dX3_add_31 rfl ?_
  refine rget hC hK hR (ct_line hk G _ _) rfl uin_X3 3 (by decide) TF_X3_20 rfl dX3_add_32 ?_
  refine lv_lload_n hC.x hC.b dX3_add_35 rfl (lv_at hl 1 rfl) ?_
  refine lv_lload_n hC.x hC.b dX3_add_36 rfl (lv_at hl 1 rfl) ?_
  refine lv_lmul hC.x hC.b dX3_add_37 ?_
  refine lv_ladd hC.x hC.b dX3_add_38 ?_
  refine rputl hC hK hG hR hS (ct_line hk G _ _) rfl uin_X3 tyX3 tyX3_ok nmX3 3 (by decide) TF_X3_20 rfl rfl (Nat.le_of_ble_eq_true rfl) rfl (ct_line hk G _ _) dX3_add_39 (fun t_8 es_7 H locs hR hS => ?_)
  refine lv_aload_n hC.x hC.b dX3_add_42 rfl (lv_at hl 0 rfl) ?_
  refine lv_dup hC.x hC.b dX3_add_43 rfl ?_
  refine rget hC hK hR (ct_line hk G _ _) rfl uin_X3 4 (by decide) TF_X3_23 rfl dX3_add_44 ?_
  refine lv_lload_n hC.x hC.b dX3_add_47 rfl (lv_at hl 1 rfl) ?_
  refine lv_lload_n hC.x hC.b dX3_add_48 rfl (lv_at hl 2 rfl) ?_
  refine lv_lmul hC.x hC.b dX3_add_49 ?_
  refine lv_ladd hC.x hC.b dX3_add_50 ?_
  refine rputl hC hK hG hR hS (ct_line hk G _ _) rfl uin_X3 tyX3 tyX3_ok nmX3 4 (by decide) TF_X3_23 rfl rfl (Nat.le_of_ble_eq_true rfl) rfl (ct_line hk G _ _) dX3_add_51 (fun t_10 es_9 H locs hR hS => ?_)
  exact retv hC hK hR hS (by exact (by rw [es_1]; exact Fr.up (Fr.rf) (by first | omega | (dsimp only; omega)))) dX3_add_54

abbrev po_X3_rawAbove (σ : SI) (τ : SL) (k : Nat) : Int64 → SI × SL → Prop := fun v u => u = (σ, τ) ∧ (((v = ((σ k 0).toInt64 * τ k 4 - τ k 1 * τ k 2))))
set_option maxRecDepth 100000 in
set_option maxHeartbeats 4000000 in
theorem c_X3_rawAbove (l : Launch) {G : Gx} {A : Nat → Prop} (hG : GOk G A) (σ : SI) (τ : SL) (k : Nat) (hk : k = 19 ∨ k = 20) : ML l G A 0 yX3_rawAbove cX3_rawAbove 1 (some .long) [.ref (G.2.1 k)] (σ, τ) (po_X3_rawAbove σ τ k) := by
  refine met_of (own := RX3) (by decide +kernel) rfl [(0, .ref (G.2.1 k))] rfl (Nat.le_of_ble_eq_true rfl) ?_
  intro p e s m args below meth c ls hC hK hR hl
  have hS : va_S A s.heap s.heap [] := va_S.rf
  refine lv_aload_n hC.x hC.b dX3_rawAbove_0 rfl (lv_at hl 0 rfl) ?_
  refine rget hC hK hR (ct_line hk G _ _) rfl uin_X3 0 (by decide) TF_X3_7 rfl dX3_rawAbove_1 ?_
  refine lv_i2l hC.x hC.b dX3_rawAbove_4 rfl ?_
  refine lv_aload_n hC.x hC.b dX3_rawAbove_5 rfl (lv_at hl 0 rfl) ?_
  refine rget hC hK hR (ct_line hk G _ _) rfl uin_X3 4 (by decide) TF_X3_23 rfl dX3_rawAbove_6 ?_
  refine lv_lmul hC.x hC.b dX3_rawAbove_9 ?_
  refine lv_aload_n hC.x hC.b dX3_rawAbove_10 rfl (lv_at hl 0 rfl) ?_
  refine rget hC hK hR (ct_line hk G _ _) rfl uin_X3 1 (by decide) TF_X3_13 rfl dX3_rawAbove_11 ?_
  refine lv_aload_n hC.x hC.b dX3_rawAbove_14 rfl (lv_at hl 0 rfl) ?_
  refine rget hC hK hR (ct_line hk G _ _) rfl uin_X3 2 (by decide) TF_X3_17 rfl dX3_rawAbove_15 ?_
  refine lv_lmul hC.x hC.b dX3_rawAbove_18 ?_
  refine lv_lsub hC.x hC.b dX3_rawAbove_19 ?_
  exact retl hC hK hR hS ⟨rfl, (by first | rfl | omega)⟩ dX3_rawAbove_20

abbrev po_X3_rawBelow (σ : SI) (τ : SL) (k : Nat) : Int64 → SI × SL → Prop := fun v u => u = (σ, τ) ∧ (((v = ((σ k 0).toInt64 * τ k 3 - τ k 1 * τ k 1))))
set_option maxRecDepth 100000 in
set_option maxHeartbeats 4000000 in
theorem c_X3_rawBelow (l : Launch) {G : Gx} {A : Nat → Prop} (hG : GOk G A) (σ : SI) (τ : SL) (k : Nat) (hk : k = 19 ∨ k = 20) : ML l G A 0 yX3_rawBelow cX3_rawBelow 1 (some .long) [.ref (G.2.1 k)] (σ, τ) (po_X3_rawBelow σ τ k) := by
  refine met_of (own := RX3) (by decide +kernel) rfl [(0, .ref (G.2.1 k))] rfl (Nat.le_of_ble_eq_true rfl) ?_
  intro p e s m args below meth c ls hC hK hR hl
  have hS : va_S A s.heap s.heap [] := va_S.rf
  refine lv_aload_n hC.x hC.b dX3_rawBelow_0 rfl (lv_at hl 0 rfl) ?_
  refine rget hC hK hR (ct_line hk G _ _) rfl uin_X3 0 (by decide) TF_X3_7 rfl dX3_rawBelow_1 ?_
  refine lv_i2l hC.x hC.b dX3_rawBelow_4 rfl ?_
  refine lv_aload_n hC.x hC.b dX3_rawBelow_5 rfl (lv_at hl 0 rfl) ?_
  refine rget hC hK hR (ct_line hk G _ _) rfl uin_X3 3 (by decide) TF_X3_20 rfl dX3_rawBelow_6 ?_
  refine lv_lmul hC.x hC.b dX3_rawBelow_9 ?_
  refine lv_aload_n hC.x hC.b dX3_rawBelow_10 rfl (lv_at hl 0 rfl) ?_
  refine rget hC hK hR (ct_line hk G _ _) rfl uin_X3 1 (by decide) TF_X3_13 rfl dX3_rawBelow_11 ?_
  refine lv_aload_n hC.x hC.b dX3_rawBelow_14 rfl (lv_at hl 0 rfl) ?_
  refine rget hC hK hR (ct_line hk G _ _) rfl uin_X3 1 (by decide) TF_X3_13 rfl dX3_rawBelow_15 ?_
  refine lv_lmul hC.x hC.b dX3_rawBelow_18 ?_
  refine lv_lsub hC.x hC.b dX3_rawBelow_19 ?_
  exact retl hC hK hR hS ⟨rfl, (by first | rfl | omega)⟩ dX3_rawBelow_20

abbrev po_X3_valueAtZero (σ : SI) (τ : SL) (k : Nat) : Int64 → SI × SL → Prop := fun v u => u = (σ, τ) ∧ (True)
set_option maxRecDepth 100000 in
set_option maxHeartbeats 4000000 in
theorem c_X3_valueAtZero (l : Launch) {G : Gx} {A : Nat → Prop} (hG : GOk G A) (σ : SI) (τ : SL) (k : Nat) (hk : k = 19 ∨ k = 20) : ML l G A 1 yX3_valueAtZero cX3_valueAtZero 3 (some .long) [.ref (G.2.1 k)] (σ, τ) (po_X3_valueAtZero σ τ k) := by
  refine met_of (own := RX3) (by decide +kernel) rfl [(0, .ref (G.2.1 k))] rfl (Nat.le_of_ble_eq_true rfl) ?_
  intro p e s m args below meth c ls hC hK hR hl
  have hS : va_S A s.heap s.heap [] := va_S.rf
  refine lv_aload_n hC.x hC.b dX3_valueAtZero_0 rfl (lv_at hl 0 rfl) ?_
  refine golp (runV (As := []) (rest := []) hC hK hR hl.1 (c_X3_rawBelow l hG σ τ k hk ) (call_b hC.ts TC_X3_rawBelow TN_X3 TM_X3_26 hd_X3_rawBelow ⟨Nat.le_of_ble_eq_true rfl, Nat.le_of_ble_eq_true rfl⟩) TI_X3_rawBelow TS_X3_rawBelow (ct_line hk G _ _) rfl rfl rfl (Nat.le_of_ble_eq_true rfl) dX3_valueAtZero_1 ⟨Nat.le_of_ble_eq_true rfl, Nat.le_of_ble_eq_true rfl⟩) hS (fun v_1 H locs w_2 hR hS => ?_)
  subst w_2
  refine lv_topl (fun x_3 ex_4 => ?_)
  refine lv_lstore_n (lv' := [(1, .long x_3), (0, .ref (G.2.1 k))]) hC.x hC.b dX3_valueAtZero_4 rfl hl (by decide) rfl (fun ls hl => ?_)
  refine lv_lload_n hC.x hC.b dX3_valueAtZero_5 rfl (lv_at hl 0 rfl) ?_
  refine lv_lconst (v := 0) hC.x hC.b dX3_valueAtZero_6 (by decide) ?_
  refine bl_le (tgt := 37) (a := x_3.toInt) (b := 0) hC.x hC.b rfl rfl dX3_valueAtZero_7 dX3_valueAtZero_8 (by decide) (fun c_5 => ?_) (fun c_5 => ?_)
  · skip
    refine lv_aload_n hC.x hC.b dX3_valueAtZero_37 rfl (lv_at hl 1 rfl) ?_
    refine rget hC hK hR (ct_line hk G _ _) rfl uin_X3 2 (by decide) TF_X3_17 rfl dX3_valueAtZero_38 ?_
    exact retl hC hK hR hS ⟨rfl, (trivial)⟩ dX3_valueAtZero_41
  · skip
    refine lv_aload_n hC.x hC.b dX3_valueAtZero_11 rfl (lv_at hl 1 rfl) ?_
    refine rget hC hK hR (ct_line hk G _ _) rfl uin_X3 2 (by decide) TF_X3_17 rfl dX3_valueAtZero_12 ?_
    refine lv_aload_n hC.x hC.b dX3_valueAtZero_15 rfl (lv_at hl 1 rfl) ?_
    refine rget hC hK hR (ct_line hk G _ _) rfl uin_X3 3 (by decide) TF_X3_20 rfl dX3_valueAtZero_16 ?_
    refine lv_lmul hC.x hC.b dX3_valueAtZero_19 ?_
    refine lv_aload_n hC.x hC.b dX3_valueAtZero_20 rfl (lv_at hl 1 rfl) ?_
    refine rget hC hK hR (ct_line hk G _ _) rfl uin_X3 1 (by decide) TF_X3_13 rfl dX3_valueAtZero_21 ?_
    refine lv_aload_n hC.x hC.b dX3_valueAtZero_24 rfl (lv_at hl 1 rfl) ?_
    refine rget hC hK hR (ct_line hk G _ _) rfl uin_X3 4 (by decide) TF_X3_23 rfl dX3_valueAtZero_25 ?_
    refine lv_lmul hC.x hC.b dX3_valueAtZero_28 ?_
    refine lv_lsub hC.x hC.b dX3_valueAtZero_29 ?_
    refine lv_lload_n hC.x hC.b dX3_valueAtZero_30 rfl (lv_at hl 0 rfl) ?_
    refine golp (runS (As := [.long (((τ k 2) * (τ k 3)) - ((τ k 1) * (τ k 4))), .long x_3]) (rest := []) hC hK hR hl.1 (c_J9_floorDiv_f86c9 l hG σ τ (((τ k 2) * (τ k 3)) - ((τ k 1) * (τ k 4))) x_3 (by omega)) (call_b hC.ts TC_J9_floorDiv_f86c9 TN_J9 TM_X3_30 hd_J9_floorDiv_f86c9 ⟨Nat.le_of_ble_eq_true rfl, Nat.le_of_ble_eq_true rfl⟩) TT_J9_floorDiv_f86c9 rfl rfl (Nat.le_of_ble_eq_true rfl) dX3_valueAtZero_31 ⟨Nat.le_of_ble_eq_true rfl, Nat.le_of_ble_eq_true rfl⟩) hS (fun v_6 H locs w_7 hR hS => ?_)
    refine lv_goto (tgt := 41) hC.x hC.b dX3_valueAtZero_34 (by decide) ?_
    exact retl hC hK hR hS ⟨rfl, (trivial)⟩ dX3_valueAtZero_41

abbrev po_X3_divisorOfBoth (σ : SI) (τ : SL) (k : Nat) : Int64 → SI × SL → Prop := fun v u => u = (σ, τ) ∧ (True)
set_option maxRecDepth 100000 in
set_option maxHeartbeats 4000000 in
theorem c_X3_divisorOfBoth (l : Launch) {G : Gx} {A : Nat → Prop} (hG : GOk G A) (σ : SI) (τ : SL) (k : Nat) (hk : k = 19 ∨ k = 20) : ML l G A 1 yX3_divisorOfBoth cX3_divisorOfBoth 8 (some .long) [.ref (G.2.1 k)] (σ, τ) (po_X3_divisorOfBoth σ τ k) := by
  refine met_of (own := RX3) (by decide +kernel) rfl [(0, .ref (G.2.1 k))] rfl (Nat.le_of_ble_eq_true rfl) ?_
  intro p e s m args below meth c ls hC hK hR hl
  have hS : va_S A s.heap s.heap [] := va_S.rf
  refine lv_aload_n hC.x hC.b dX3_divisorOfBoth_0 rfl (lv_at hl 0 rfl) ?_
  refine golp (runV (As := []) (rest := []) hC hK hR hl.1 (c_X3_rawBelow l hG σ τ k hk ) (call_b hC.ts TC_X3_rawBelow TN_X3 TM_X3_26 hd_X3_rawBelow ⟨Nat.le_of_ble_eq_true rfl, Nat.le_of_ble_eq_true rfl⟩) TI_X3_rawBelow TS_X3_rawBelow (ct_line hk G _ _) rfl rfl rfl (Nat.le_of_ble_eq_true rfl) dX3_divisorOfBoth_1 ⟨Nat.le_of_ble_eq_true rfl, Nat.le_of_ble_eq_true rfl⟩) hS (fun v_1 H locs w_2 hR hS => ?_)
  subst w_2
  refine lv_topl (fun x_3 ex_4 => ?_)
  refine lv_lstore_n (lv' := [(1, .long x_3), (0, .ref (G.2.1 k))]) hC.x hC.b dX3_divisorOfBoth_4 rfl hl (by decide) rfl (fun ls hl => ?_)
  refine lv_lload_n hC.x hC.b dX3_divisorOfBoth_5 rfl (lv_at hl 0 rfl) ?_
  refine lv_lconst (v := 0) hC.x hC.b dX3_divisorOfBoth_6 (by decide) ?_
  refine bl_gt (tgt := 13) (a := x_3.toInt) (b := 0) hC.x hC.b rfl rfl dX3_divisorOfBoth_7 dX3_divisorOfBoth_8 (by decide) (fun c_5 => ?_) (fun c_5 => ?_)
  · skip
    refine lv_aload_n hC.x hC.b dX3_divisorOfBoth_13 rfl (lv_at hl 1 rfl) ?_
    refine golp (runV (As := []) (rest := []) hC hK hR hl.1 (c_X3_rawAbove l hG σ τ k hk ) (call_b hC.ts TC_X3_rawAbove TN_X3 TM_X3_39 hd_X3_rawAbove ⟨Nat.le_of_ble_eq_true rfl, Nat.le_of_ble_eq_true rfl⟩) TI_X3_rawAbove TS_X3_rawAbove (ct_line hk G _ _) rfl rfl rfl (Nat.le_of_ble_eq_true rfl) dX3_divisorOfBoth_14 ⟨Nat.le_of_ble_eq_true rfl, Nat.le_of_ble_eq_true rfl⟩) hS (fun v_6 H locs w_7 hR hS => ?_)
    subst w_7
    refine golp (runS (As := [.long ((σ k 0).toInt64 * τ k 4 - τ k 1 * τ k 2)]) (rest := []) hC hK hR hl.1 (c_J9_abs_067f4 l hG σ τ ((σ k 0).toInt64 * τ k 4 - τ k 1 * τ k 2) ) (call_b hC.ts TC_J9_abs_067f4 TN_J9 TM_X3_42 hd_J9_abs_067f4 ⟨Nat.le_of_ble_eq_true rfl, Nat.le_of_ble_eq_true rfl⟩) TT_J9_abs_067f4 rfl rfl (Nat.le_of_ble_eq_true rfl) dX3_divisorOfBoth_17 ⟨Nat.le_of_ble_eq_true rfl, Nat.le_of_ble_eq_true rfl⟩) hS (fun v_8 H locs w_9 hR hS => ?_)
    have f_10 := w_9
    refine lv_lstore_n (lv' := [(3, .long v_8), (1, .long x_3), (0, .ref (G.2.1 k))]) hC.x hC.b dX3_divisorOfBoth_20 rfl hl (by decide) rfl (fun ls hl => ?_)
    refine lv_iconst (v := 0) hC.x hC.b dX3_divisorOfBoth_21 (by decide) ?_
    refine lv_istore (lv' := [(5, .int (0 : Int32)), (3, .long v_8), (1, .long x_3), (0, .ref (G.2.1 k))]) hC.x hC.b dX3_divisorOfBoth_22 hl (by decide) rfl (fun ls hl => ?_)
    have L_24 : ∀ (F : Nat) (n : Nat) (x1 : Int64) (x3 : Int64), (200 - n) < F → (n ≤ 200) → ∀ (H : Heap) (locs : List Loc) (ls : Array Slot), RepH G σ τ H → va_S A s.heap H locs → lv_has ls 8 [(0, .ref (G.2.1 k)), (1, .long x1), (3, .long x3), (5, .int (nI n))] → W p l e (rmD 1) s m args below meth c H locs 0 0 (MQ below (va_Ql (po_X3_divisorOfBoth σ τ k) (BU G) A) args s 0 0 A) (F0 m 24 ls []) := by
      intro F
      induction F with
      | zero => intro n x1 x3 hm; exact absurd hm (Nat.not_lt_zero _)
      | succ F ih_24 =>
        intro n x1 x3 hm_24 hi0_24 H locs ls hR hS hl
        refine lv_iload hC.x hC.b dX3_divisorOfBoth_24 (lv_at hl 3 rfl) ?_
        refine lv_sipush (v := 200) hC.x hC.b dX3_divisorOfBoth_26 (by decide) ?_
        refine bi_ge (tgt := 54) (a := (n : Int)) (b := 200) hC.x hC.b (nI_T n (by omega)) rfl dX3_divisorOfBoth_29 (by decide) (fun c_11 => ?_) (fun c_11 => ?_)
        · skip
          refine lv_lload_n hC.x hC.b dX3_divisorOfBoth_54 rfl (lv_at hl 1 rfl) ?_
          exact retl hC hK hR hS ⟨rfl, (trivial)⟩ dX3_divisorOfBoth_55
        · skip
          refine lv_lload_n hC.x hC.b dX3_divisorOfBoth_32 rfl (lv_at hl 2 rfl) ?_
          refine lv_lconst (v := 0) hC.x hC.b dX3_divisorOfBoth_33 (by decide) ?_
          refine bl_eq (tgt := 54) (a := x3.toInt) (b := 0) hC.x hC.b rfl rfl dX3_divisorOfBoth_34 dX3_divisorOfBoth_35 (by decide) (fun c_12 => ?_) (fun c_12 => ?_)
          · skip
            refine lv_lload_n hC.x hC.b dX3_divisorOfBoth_54 rfl (lv_at hl 1 rfl) ?_
            exact retl hC hK hR hS ⟨rfl, (trivial)⟩ dX3_divisorOfBoth_55
          · skip
            refine lv_lload_n hC.x hC.b dX3_divisorOfBoth_38 rfl (lv_at hl 1 rfl) ?_
            refine lv_lload_n hC.x hC.b dX3_divisorOfBoth_39 rfl (lv_at hl 2 rfl) ?_
            refine lv_lrem hC.x hC.b dX3_divisorOfBoth_40 (ne0L rfl (by omega)) ?_
            refine lv_lstore (lv' := [(6, .long (x1 - x1 / x3 * x3)), (0, .ref (G.2.1 k)), (1, .long x1), (3, .long x3), (5, .int (nI n))]) hC.x hC.b dX3_divisorOfBoth_41 hl (by decide) rfl (fun ls hl => ?_)
            refine lv_lload_n hC.x hC.b dX3_divisorOfBoth_43 rfl (lv_at hl 3 rfl) ?_
            refine lv_lstore_n (lv' := [(1, .long x3), (6, .long (x1 - x1 / x3 * x3)), (0, .ref (G.2.1 k)), (3, .long x3), (5, .int (nI n))]) hC.x hC.b dX3_divisorOfBoth_44 rfl hl (by decide) rfl (fun ls hl => ?_)
            refine lv_lload hC.x hC.b dX3_divisorOfBoth_45 (lv_at hl 1 rfl) ?_
            refine lv_lstore_n (lv' := [(3, .long (x1 - x1 / x3 * x3)), (1, .long x3), (6, .long (x1 - x1 / x3 * x3)), (0, .ref (G.2.1 k)), (5, .int (nI n))]) hC.x hC.b dX3_divisorOfBoth_47 rfl hl (by decide) rfl (fun ls hl => ?_)
            refine lv_iinc (v := nI (n + 1)) (lv' := [(5, .int (nI (n + 1))), (3, .long (x1 - x1 / x3 * x3)), (1, .long x3), (6, .long (x1 - x1 / x3 * x3)), (0, .ref (G.2.1 k))]) hC.x hC.b dX3_divisorOfBoth_48 hl (k := 4) rfl (nI_succ _).symm (by decide) rfl (fun ls hl => ?_)
            refine lv_goto (tgt := 24) hC.x hC.b dX3_divisorOfBoth_51 (by decide) ?_
            exact ih_24 (n + 1) x3 (x1 - x1 / x3 * x3) (by omega) (by first | omega | assumption) _ _ _ hR hS (lv_sub hl [4, 2, 1, 0] rfl)
    exact L_24 _ 0 x_3 v_8 (Nat.lt_succ_self _) (by first | omega | assumption) _ _ _ hR hS (lv_sub hl [3, 2, 1, 0] rfl)
  · skip
    refine lv_lconst (v := 0) hC.x hC.b dX3_divisorOfBoth_11 (by decide) ?_
    exact retl hC hK hR hS ⟨rfl, (trivial)⟩ dX3_divisorOfBoth_12

abbrev po_X3_slopeAbove (σ : SI) (τ : SL) (k : Nat) : Int64 → SI × SL → Prop := fun v u => u = (σ, τ) ∧ (True)
set_option maxRecDepth 100000 in
set_option maxHeartbeats 4000000 in
theorem c_X3_slopeAbove (l : Launch) {G : Gx} {A : Nat → Prop} (hG : GOk G A) (σ : SI) (τ : SL) (k : Nat) (hk : k = 19 ∨ k = 20) : ML l G A 2 yX3_slopeAbove cX3_slopeAbove 3 (some .long) [.ref (G.2.1 k)] (σ, τ) (po_X3_slopeAbove σ τ k) := by
  refine met_of (own := RX3) (by decide +kernel) rfl [(0, .ref (G.2.1 k))] rfl (Nat.le_of_ble_eq_true rfl) ?_
  intro p e s m args below meth c ls hC hK hR hl
  have hS : va_S A s.heap s.heap [] := va_S.rf
  refine lv_aload_n hC.x hC.b dX3_slopeAbove_0 rfl (lv_at hl 0 rfl) ?_
  refine golp (runV (As := []) (rest := []) hC hK hR hl.1 (c_X3_divisorOfBoth l hG σ τ k hk ) (call_b hC.ts TC_X3_divisorOfBoth TN_X3 TM_X3_36 hd_X3_divisorOfBoth ⟨Nat.le_of_ble_eq_true rfl, Nat.le_of_ble_eq_true rfl⟩) TI_X3_divisorOfBoth TS_X3_divisorOfBoth (ct_line hk G _ _) rfl rfl rfl (Nat.le_of_ble_eq_true rfl) dX3_slopeAbove_1 ⟨Nat.le_of_ble_eq_true rfl, Nat.le_of_ble_eq_true rfl⟩) hS (fun v_1 H locs w_2 hR hS => ?_)
  refine lv_lstore_n (lv' := [(1, .long v_1), (0, .ref (G.2.1 k))]) hC.x hC.b dX3_slopeAbove_4 rfl hl (by decide) rfl (fun ls hl => ?_)
  refine lv_lload_n hC.x hC.b dX3_slopeAbove_5 rfl (lv_at hl 0 rfl) ?_
  refine lv_lconst (v := 0) hC.x hC.b dX3_slopeAbove_6 (by decide) ?_
  refine bl_le (tgt := 20) (a := v_1.toInt) (b := 0) hC.x hC.b rfl rfl dX3_slopeAbove_7 dX3_slopeAbove_8 (by decide) (fun c_3 => ?_) (fun c_3 => ?_)
  · skip
    refine lv_lconst (v := 0) hC.x hC.b dX3_slopeAbove_20 (by decide) ?_
    exact retl hC hK hR hS ⟨rfl, (trivial)⟩ dX3_slopeAbove_21
  · skip
    refine lv_aload_n hC.x hC.b dX3_slopeAbove_11 rfl (lv_at hl 1 rfl) ?_
    refine golp (runV (As := []) (rest := []) hC hK hR hl.1 (c_X3_rawAbove l hG σ τ k hk ) (call_b hC.ts TC_X3_rawAbove TN_X3 TM_X3_39 hd_X3_rawAbove ⟨Nat.le_of_ble_eq_true rfl, Nat.le_of_ble_eq_true rfl⟩) TI_X3_rawAbove TS_X3_rawAbove (ct_line hk G _ _) rfl rfl rfl (Nat.le_of_ble_eq_true rfl) dX3_slopeAbove_12 ⟨Nat.le_of_ble_eq_true rfl, Nat.le_of_ble_eq_true rfl⟩) hS (fun v_4 H locs w_5 hR hS => ?_)
    subst w_5
    refine lv_lload_n hC.x hC.b dX3_slopeAbove_15 rfl (lv_at hl 0 rfl) ?_
    refine lv_ldiv hC.x hC.b dX3_slopeAbove_16 (ne0L rfl (by omega)) ?_
    refine lv_goto (tgt := 21) hC.x hC.b dX3_slopeAbove_17 (by decide) ?_
    exact retl hC hK hR hS ⟨rfl, (trivial)⟩ dX3_slopeAbove_21

abbrev po_X3_slopeBelow (σ : SI) (τ : SL) (k : Nat) : Int64 → SI × SL → Prop := fun v u => u = (σ, τ) ∧ (True)
set_option maxRecDepth 100000 in
set_option maxHeartbeats 4000000 in
theorem c_X3_slopeBelow (l : Launch) {G : Gx} {A : Nat → Prop} (hG : GOk G A) (σ : SI) (τ : SL) (k : Nat) (hk : k = 19 ∨ k = 20) : ML l G A 2 yX3_slopeBelow cX3_slopeBelow 3 (some .long) [.ref (G.2.1 k)] (σ, τ) (po_X3_slopeBelow σ τ k) := by
  refine met_of (own := RX3) (by decide +kernel) rfl [(0, .ref (G.2.1 k))] rfl (Nat.le_of_ble_eq_true rfl) ?_
  intro p e s m args below meth c ls hC hK hR hl
  have hS : va_S A s.heap s.heap [] := va_S.rf
  refine lv_aload_n hC.x hC.b dX3_slopeBelow_0 rfl (lv_at hl 0 rfl) ?_
  refine golp (runV (As := []) (rest := []) hC hK hR hl.1 (c_X3_divisorOfBoth l hG σ τ k hk ) (call_b hC.ts TC_X3_divisorOfBoth TN_X3 TM_X3_36 hd_X3_divisorOfBoth ⟨Nat.le_of_ble_eq_true rfl, Nat.le_of_ble_eq_true rfl⟩) TI_X3_divisorOfBoth TS_X3_divisorOfBoth (ct_line hk G _ _) rfl rfl rfl (Nat.le_of_ble_eq_true rfl) dX3_slopeBelow_1 ⟨Nat.le_of_ble_eq_true rfl, Nat.le_of_ble_eq_true rfl⟩) hS (fun v_1 H locs w_2 hR hS => ?_)
  refine lv_lstore_n (lv' := [(1, .long v_1), (0, .ref (G.2.1 k))]) hC.x hC.b dX3_slopeBelow_4 rfl hl (by decide) rfl (fun ls hl => ?_)
  refine lv_lload_n hC.x hC.b dX3_slopeBelow_5 rfl (lv_at hl 0 rfl) ?_
  refine lv_lconst (v := 0) hC.x hC.b dX3_slopeBelow_6 (by decide) ?_
  refine bl_le (tgt := 20) (a := v_1.toInt) (b := 0) hC.x hC.b rfl rfl dX3_slopeBelow_7 dX3_slopeBelow_8 (by decide) (fun c_3 => ?_) (fun c_3 => ?_)
  · skip
    refine lv_lconst (v := 1) hC.x hC.b dX3_slopeBelow_20 (by decide) ?_
    exact retl hC hK hR hS ⟨rfl, (trivial)⟩ dX3_slopeBelow_21
  · skip
    refine lv_aload_n hC.x hC.b dX3_slopeBelow_11 rfl (lv_at hl 1 rfl) ?_
    refine golp (runV (As := []) (rest := []) hC hK hR hl.1 (c_X3_rawBelow l hG σ τ k hk ) (call_b hC.ts TC_X3_rawBelow TN_X3 TM_X3_26 hd_X3_rawBelow ⟨Nat.le_of_ble_eq_true rfl, Nat.le_of_ble_eq_true rfl⟩) TI_X3_rawBelow TS_X3_rawBelow (ct_line hk G _ _) rfl rfl rfl (Nat.le_of_ble_eq_true rfl) dX3_slopeBelow_12 ⟨Nat.le_of_ble_eq_true rfl, Nat.le_of_ble_eq_true rfl⟩) hS (fun v_4 H locs w_5 hR hS => ?_)
    subst w_5
    refine lv_lload_n hC.x hC.b dX3_slopeBelow_15 rfl (lv_at hl 0 rfl) ?_
    refine lv_ldiv hC.x hC.b dX3_slopeBelow_16 (ne0L rfl (by omega)) ?_
    refine lv_goto (tgt := 21) hC.x hC.b dX3_slopeBelow_17 (by decide) ?_
    exact retl hC hK hR hS ⟨rfl, (trivial)⟩ dX3_slopeBelow_21

abbrev po_X4_dropReadings (σ : SI) (τ : SL) (q : Nat) : Int32 → SI × SL → Prop := fun v u => ((v = cntR σ q 201) ∧ (u.2 = τ) ∧ (Torn σ u.1 q))
set_option maxRecDepth 100000 in
set_option maxHeartbeats 4000000 in
theorem c_X4_dropReadings (l : Launch) {G : Gx} {A : Nat → Prop} (hG : GOk G A) (σ : SI) (τ : SL) (q : Nat) (hq : q < 24) : MI l G A 0 yX4_dropReadings cX4_dropReadings 3 (some .int) [.ref (G.2.1 (104 + q))] (σ, τ) (po_X4_dropReadings σ τ q) := by
  refine met_of (own := RX4) (by decide +kernel) rfl [(0, .ref (G.2.1 (104 + q)))] rfl (Nat.le_of_ble_eq_true rfl) ?_
  intro p e s m args below meth c ls hC hK hR hl
  have hS : va_S A s.heap s.heap [] := va_S.rf
  refine lv_iconst (v := 0) hC.x hC.b dX4_dropReadings_0 (by decide) ?_
  refine lv_istore_n (lv' := [(1, .int (0 : Int32)), (0, .ref (G.2.1 (104 + q)))]) hC.x hC.b dX4_dropReadings_1 rfl hl (by decide) rfl (fun ls hl => ?_)
  refine lv_iconst (v := 0) hC.x hC.b dX4_dropReadings_2 (by decide) ?_
  refine lv_istore_n (lv' := [(2, .int (0 : Int32)), (1, .int (0 : Int32)), (0, .ref (G.2.1 (104 + q)))]) hC.x hC.b dX4_dropReadings_3 rfl hl (by decide) rfl (fun ls hl => ?_)
  have L_4 : ∀ (F : Nat) (n : Nat) (x1 : Int32) (s1 : SI), (201 - n) < F → (n ≤ 201) → (x1 = cntR σ q n) → (Fr (fun k => k = 128 + q ∨ k = 152 + q) σ s1) → (∀ j, j < n → s1 (128 + q) j = 1000000 ∧ s1 (152 + q) j = 1000000) → (∀ j, n ≤ j → s1 (128 + q) j = σ (128 + q) j ∧ s1 (152 + q) j = σ (152 + q) j) → ∀ (H : Heap) (locs : List Loc) (ls : Array Slot), RepH G s1 τ H → va_S A s.heap H locs → lv_has ls 3 [(0, .ref (G.2.1 (104 + q))), (1, .int x1), (2, .int (nI n))] → W p l e (rmD 0) s m args below meth c H locs 0 0 (MQ below (va_Qi (po_X4_dropReadings σ τ q) (BU G) A) args s 0 0 A) (F0 m 4 ls []) := by
    intro F
    induction F with
    | zero => intro n x1 s1 hm; exact absurd hm (Nat.not_lt_zero _)
    | succ F ih_4 =>
      intro n x1 s1 hm_4 hi0_4 hi1_4 hi2_4 hi3_4 hi4_4 H locs ls hR hS hl
      refine lv_iload_n hC.x hC.b dX4_dropReadings_4 rfl (lv_at hl 2 rfl) ?_
      refine lv_aload_n hC.x hC.b dX4_dropReadings_5 rfl (lv_at hl 0 rfl) ?_
      refine rget hC hK hR (ct_link hq G _ _) rfl uin_X4 4 (by decide) TF_X4_24 rfl dX4_dropReadings_6 ?_
      refine ralen (t := 0) hC hK hR (by decide) (ct_there hq G _ _) (v := 201) rfl dX4_dropReadings_9 ?_
      refine bi_ge (tgt := 69) (a := (n : Int)) (b := 201) hC.x hC.b (nI_T n (by omega)) rfl dX4_dropReadings_10 (by decide) (fun c_1 => ?_) (fun c_1 => ?_)
      · skip
        refine lv_iload_n hC.x hC.b dX4_dropReadings_69 rfl (lv_at hl 1 rfl) ?_
        exact reti hC hK hR hS (⟨by (have e9 : n = 201 := by omega); subst e9; assumption, by rfl, by (have e9 : n = 201 := by omega); subst e9; exact ⟨by assumption, by assumption⟩⟩) dX4_dropReadings_70
      · skip
        refine lv_iload_n hC.x hC.b dX4_dropReadings_13 rfl (lv_at hl 2 rfl) ?_
        refine lv_aload_n hC.x hC.b dX4_dropReadings_14 rfl (lv_at hl 0 rfl) ?_
        refine rget hC hK hR (ct_link hq G _ _) rfl uin_X4 5 (by decide) TF_X4_28 rfl dX4_dropReadings_15 ?_
        refine ralen (t := 0) hC hK hR (by decide) (ct_back hq G _ _) (v := 201) rfl dX4_dropReadings_18 ?_
        refine bi_ge (tgt := 69) (a := (n : Int)) (b := 201) hC.x hC.b (nI_T n (by omega)) rfl dX4_dropReadings_19 (by decide) (fun c_2 => ?_) (fun c_2 => ?_)
        · skip
          refine lv_iload_n hC.x hC.b dX4_dropReadings_69 rfl (lv_at hl 1 rfl) ?_
          exact reti hC hK hR hS (⟨by (have e9 : n = 201 := by omega); subst e9; assumption, by rfl, by (have e9 : n = 201 := by omega); subst e9; exact ⟨by assumption, by assumption⟩⟩) dX4_dropReadings_70
        · skip
          refine lv_aload_n hC.x hC.b dX4_dropReadings_22 rfl (lv_at hl 0 rfl) ?_
          refine rget hC hK hR (ct_link hq G _ _) rfl uin_X4 4 (by decide) TF_X4_24 rfl dX4_dropReadings_23 ?_
          refine lv_iload_n hC.x hC.b dX4_dropReadings_26 rfl (lv_at hl 2 rfl) ?_
          refine ald hC hK hR (ct_there hq G _ _) (nI_T n (by omega)) (by omega) (by omega) (Int.toNat_natCast _) dX4_dropReadings_27 ?_
          refine lv_ldc hC.x hC.b hC.ow (hC.ts _ TK_X4_35) dX4_dropReadings_28 ?_
          refine bi_ne (tgt := 44) (a := (s1 (128 + q) n).toInt) (b := 1000000) hC.x hC.b rfl rfl dX4_dropReadings_30 (by decide) (fun c_3 => ?_) (fun c_3 => ?_)
          · skip
            obtain ⟨x_4, ex_5⟩ : ∃ y : Int32, y = x1 + 1 := ⟨_, rfl⟩
            refine lv_iinc (v := x_4) (lv' := [(1, .int x_4), (0, .ref (G.2.1 (104 + q))), (2, .int (nI n))]) hC.x hC.b dX4_dropReadings_44 hl (k := 1) rfl ex_5.symm (by decide) rfl (fun ls hl => ?_)
            refine lv_aload_n hC.x hC.b dX4_dropReadings_47 rfl (lv_at hl 1 rfl) ?_
            refine rget hC hK hR (ct_link hq G _ _) rfl uin_X4 4 (by decide) TF_X4_24 rfl dX4_dropReadings_48 ?_
            refine lv_iload_n hC.x hC.b dX4_dropReadings_51 rfl (lv_at hl 2 rfl) ?_
            refine lv_ldc hC.x hC.b hC.ow (hC.ts _ TK_X4_35) dX4_dropReadings_52 ?_
            refine ast hC hK hG hR hS (fun _ => ct_there hq G _ _) (nI_T n (by omega)) (by omega) (by omega) (Int.toNat_natCast _) dX4_dropReadings_54 (fun s_6 es_7 H locs hR hS => ?_)
            refine lv_aload_n hC.x hC.b dX4_dropReadings_55 rfl (lv_at hl 1 rfl) ?_
            refine rget hC hK hR (ct_link hq G _ _) rfl uin_X4 5 (by decide) TF_X4_28 rfl dX4_dropReadings_56 ?_
            refine lv_iload_n hC.x hC.b dX4_dropReadings_59 rfl (lv_at hl 2 rfl) ?_
            refine lv_ldc hC.x hC.b hC.ow (hC.ts _ TK_X4_35) dX4_dropReadings_60 ?_
            refine ast hC hK hG hR hS (fun _ => ct_back hq G _ _) (nI_T n (by omega)) (by omega) (by omega) (Int.toNat_natCast _) dX4_dropReadings_62 (fun s_8 es_9 H locs hR hS => ?_)
            refine lv_iinc (v := nI (n + 1)) (lv' := [(2, .int (nI (n + 1))), (1, .int x_4), (0, .ref (G.2.1 (104 + q)))]) hC.x hC.b dX4_dropReadings_63 hl (k := 2) rfl (nI_succ _).symm (by decide) rfl (fun ls hl => ?_)
            refine lv_goto (tgt := 4) hC.x hC.b dX4_dropReadings_66 (by decide) ?_
            exact ih_4 (n + 1) x_4 s_8 (by omega) (by first | omega | assumption) (by show _ = if _ then _ else _; rw [← (hi4_4 n (Nat.le_refl n)).1, ← (hi4_4 n (Nat.le_refl n)).2]; first | (rw [if_pos (by omega)]; exact hi1_4) | (rw [if_neg (by omega), ← hi1_4]; assumption)) (by subst es_9; subst es_7; exact (Fr.up (Fr.up (by assumption) (Or.inl rfl)) (Or.inr rfl))) (by subst es_9; subst es_7; intro j hj; by_cases e : j = n; (subst e; exact ⟨(up2_o (by omega)).trans up2_s, up2_s⟩); exact ⟨(up2_o (by omega)).trans ((up2_n e).trans (hi3_4 j (by omega)).1), (up2_n e).trans ((up2_o (by omega)).trans (hi3_4 j (by omega)).2)⟩) (by subst es_9; subst es_7; intro j hj; exact ⟨(up2_o (by omega)).trans ((up2_n (by omega)).trans (hi4_4 j (by omega)).1), (up2_n (by omega)).trans ((up2_o (by omega)).trans (hi4_4 j (by omega)).2)⟩) _ _ _ hR hS (lv_sub hl [2, 1, 0] rfl)
          · skip
            refine lv_aload_n hC.x hC.b dX4_dropReadings_33 rfl (lv_at hl 0 rfl) ?_
            refine rget hC hK hR (ct_link hq G _ _) rfl uin_X4 5 (by decide) TF_X4_28 rfl dX4_dropReadings_34 ?_
            refine lv_iload_n hC.x hC.b dX4_dropReadings_37 rfl (lv_at hl 2 rfl) ?_
            refine ald hC hK hR (ct_back hq G _ _) (nI_T n (by omega)) (by omega) (by omega) (Int.toNat_natCast _) dX4_dropReadings_38 ?_
            refine lv_ldc hC.x hC.b hC.ow (hC.ts _ TK_X4_35) dX4_dropReadings_39 ?_
            refine bi_eq (tgt := 47) (a := (s1 (152 + q) n).toInt) (b := 1000000) hC.x hC.b rfl rfl dX4_dropReadings_41 (by decide) (fun c_10 => ?_) (fun c_10 => ?_)
            · skip
              refine lv_aload_n hC.x hC.b dX4_dropReadings_47 rfl (lv_at hl 0 rfl) ?_
              refine rget hC hK hR (ct_link hq G _ _) rfl uin_X4 4 (by decide) TF_X4_24 rfl dX4_dropReadings_48 ?_
              refine lv_iload_n hC.x hC.b dX4_dropReadings_51 rfl (lv_at hl 2 rfl) ?_
              refine lv_ldc hC.x hC.b hC.ow (hC.ts _ TK_X4_35) dX4_dropReadings_52 ?_
              refine ast hC hK hG hR hS (fun _ => ct_there hq G _ _) (nI_T n (by omega)) (by omega) (by omega) (Int.toNat_natCast _) dX4_dropReadings_54 (fun s_11 es_12 H locs hR hS => ?_)
              refine lv_aload_n hC.x hC.b dX4_dropReadings_55 rfl (lv_at hl 0 rfl) ?_
              refine rget hC hK hR (ct_link hq G _ _) rfl uin_X4 5 (by decide) TF_X4_28 rfl dX4_dropReadings_56 ?_
              refine lv_iload_n hC.x hC.b dX4_dropReadings_59 rfl (lv_at hl 2 rfl) ?_
              refine lv_ldc hC.x hC.b hC.ow (hC.ts _ TK_X4_35) dX4_dropReadings_60 ?_
              refine ast hC hK hG hR hS (fun _ => ct_back hq G _ _) (nI_T n (by omega)) (by omega) (by omega) (Int.toNat_natCast _) dX4_dropReadings_62 (fun s_13 es_14 H locs hR hS => ?_)
              refine lv_iinc (v := nI (n + 1)) (lv' := [(2, .int (nI (n + 1))), (0, .ref (G.2.1 (104 + q))), (1, .int x1)]) hC.x hC.b dX4_dropReadings_63 hl (k := 2) rfl (nI_succ _).symm (by decide) rfl (fun ls hl => ?_)
              refine lv_goto (tgt := 4) hC.x hC.b dX4_dropReadings_66 (by decide) ?_
              exact ih_4 (n + 1) x1 s_13 (by omega) (by first | omega | assumption) (by show _ = if _ then _ else _; rw [← (hi4_4 n (Nat.le_refl n)).1, ← (hi4_4 n (Nat.le_refl n)).2]; first | (rw [if_pos (by omega)]; exact hi1_4) | (rw [if_neg (by omega), ← hi1_4]; assumption)) (by subst es_14; subst es_12; exact (Fr.up (Fr.up (by assumption) (Or.inl rfl)) (Or.inr rfl))) (by subst es_14; subst es_12; intro j hj; by_cases e : j = n; (subst e; exact ⟨(up2_o (by omega)).trans up2_s, up2_s⟩); exact ⟨(up2_o (by omega)).trans ((up2_n e).trans (hi3_4 j (by omega)).1), (up2_n e).trans ((up2_o (by omega)).trans (hi3_4 j (by omega)).2)⟩) (by subst es_14; subst es_12; intro j hj; exact ⟨(up2_o (by omega)).trans ((up2_n (by omega)).trans (hi4_4 j (by omega)).1), (up2_n (by omega)).trans ((up2_o (by omega)).trans (hi4_4 j (by omega)).2)⟩) _ _ _ hR hS (lv_sub hl [1, 2, 0] rfl)
            · skip
              obtain ⟨x_15, ex_16⟩ : ∃ y : Int32, y = x1 + 1 := ⟨_, rfl⟩
              refine lv_iinc (v := x_15) (lv' := [(1, .int x_15), (0, .ref (G.2.1 (104 + q))), (2, .int (nI n))]) hC.x hC.b dX4_dropReadings_44 hl (k := 1) rfl ex_16.symm (by decide) rfl (fun ls hl => ?_)
              refine lv_aload_n hC.x hC.b dX4_dropReadings_47 rfl (lv_at hl 1 rfl) ?_
              refine rget hC hK hR (ct_link hq G _ _) rfl uin_X4 4 (by decide) TF_X4_24 rfl dX4_dropReadings_48 ?_
              refine lv_iload_n hC.x hC.b dX4_dropReadings_51 rfl (lv_at hl 2 rfl) ?_
              refine lv_ldc hC.x hC.b hC.ow (hC.ts _ TK_X4_35) dX4_dropReadings_52 ?_
              refine ast hC hK hG hR hS (fun _ => ct_there hq G _ _) (nI_T n (by omega)) (by omega) (by omega) (Int.toNat_natCast _) dX4_dropReadings_54 (fun s_17 es_18 H locs hR hS => ?_)
              refine lv_aload_n hC.x hC.b dX4_dropReadings_55 rfl (lv_at hl 1 rfl) ?_
              refine rget hC hK hR (ct_link hq G _ _) rfl uin_X4 5 (by decide) TF_X4_28 rfl dX4_dropReadings_56 ?_
              refine lv_iload_n hC.x hC.b dX4_dropReadings_59 rfl (lv_at hl 2 rfl) ?_
              refine lv_ldc hC.x hC.b hC.ow (hC.ts _ TK_X4_35) dX4_dropReadings_60 ?_
              refine ast hC hK hG hR hS (fun _ => ct_back hq G _ _) (nI_T n (by omega)) (by omega) (by omega) (Int.toNat_natCast _) dX4_dropReadings_62 (fun s_19 es_20 H locs hR hS => ?_)
              refine lv_iinc (v := nI (n + 1)) (lv' := [(2, .int (nI (n + 1))), (1, .int x_15), (0, .ref (G.2.1 (104 + q)))]) hC.x hC.b dX4_dropReadings_63 hl (k := 2) rfl (nI_succ _).symm (by decide) rfl (fun ls hl => ?_)
              refine lv_goto (tgt := 4) hC.x hC.b dX4_dropReadings_66 (by decide) ?_
              exact ih_4 (n + 1) x_15 s_19 (by omega) (by first | omega | assumption) (by show _ = if _ then _ else _; rw [← (hi4_4 n (Nat.le_refl n)).1, ← (hi4_4 n (Nat.le_refl n)).2]; first | (rw [if_pos (by omega)]; exact hi1_4) | (rw [if_neg (by omega), ← hi1_4]; assumption)) (by subst es_20; subst es_18; exact (Fr.up (Fr.up (by assumption) (Or.inl rfl)) (Or.inr rfl))) (by subst es_20; subst es_18; intro j hj; by_cases e : j = n; (subst e; exact ⟨(up2_o (by omega)).trans up2_s, up2_s⟩); exact ⟨(up2_o (by omega)).trans ((up2_n e).trans (hi3_4 j (by omega)).1), (up2_n e).trans ((up2_o (by omega)).trans (hi3_4 j (by omega)).2)⟩) (by subst es_20; subst es_18; intro j hj; exact ⟨(up2_o (by omega)).trans ((up2_n (by omega)).trans (hi4_4 j (by omega)).1), (up2_n (by omega)).trans ((up2_o (by omega)).trans (hi4_4 j (by omega)).2)⟩) _ _ _ hR hS (lv_sub hl [2, 1, 0] rfl)
  exact L_4 _ 0 (0 : Int32) σ (Nat.lt_succ_self _) (by first | omega | assumption) (by rfl) (by exact Fr.rf) (by intro j hj; omega) (by intro j hj; exact ⟨rfl, rfl⟩) _ _ _ hR hS (lv_sub hl [2, 1, 0] rfl)

abbrev po_X4_readThere (σ : SI) (τ : SL) (q : Nat) (hr : Int32) (xa : Int32) : SI × SL → Prop := fun u => ((u.1 = up2 σ (128 + q) hr.toInt.toNat xa) ∧ (u.2 = τ) ∧ (0 ≤ hr.toInt) ∧ (hr.toInt < 201)) ∨ ((u.1 = σ) ∧ (u.2 = τ) ∧ (¬ (0 ≤ hr.toInt ∧ hr.toInt < 201)))
set_option maxRecDepth 100000 in
set_option maxHeartbeats 4000000 in
theorem c_X4_readThere (l : Launch) {G : Gx} {A : Nat → Prop} (hG : GOk G A) (σ : SI) (τ : SL) (q : Nat) (hq : q < 24) (hr : Int32) (xa : Int32) : MV l G A 0 yX4_readThere cX4_readThere 3 none [.ref (G.2.1 (104 + q)), .int hr, .int xa] (σ, τ) (po_X4_readThere σ τ q hr xa) := by
  refine met_of (own := RX4) (by decide +kernel) rfl [(0, .ref (G.2.1 (104 + q))), (1, .int hr), (2, .int xa)] rfl (Nat.le_of_ble_eq_true rfl) ?_
  intro p e s m args below meth c ls hC hK hR hl
  have hS : va_S A s.heap s.heap [] := va_S.rf
  refine lv_iload_n hC.x hC.b dX4_readThere_0 rfl (lv_at hl 1 rfl) ?_
  refine bz_lt (tgt := 20) (a := hr.toInt) (b := 0) hC.x hC.b rfl rfl dX4_readThere_1 (by decide) (fun c_1 => ?_) (fun c_1 => ?_)
  · skip
    exact retv hC hK hR hS (by first | exact Or.inl (⟨by first | rfl | assumption, by rfl, by first | omega | assumption, by first | omega | assumption⟩) | exact Or.inr ((⟨by first | rfl | assumption, by rfl, by first | omega | assumption⟩)) | exact False.elim (by omega)) dX4_readThere_20
  · skip
    refine lv_iload_n hC.x hC.b dX4_readThere_4 rfl (lv_at hl 1 rfl) ?_
    refine lv_aload_n hC.x hC.b dX4_readThere_5 rfl (lv_at hl 0 rfl) ?_
    refine rget hC hK hR (ct_link hq G _ _) rfl uin_X4 4 (by decide) TF_X4_24 rfl dX4_readThere_6 ?_
    refine ralen (t := 0) hC hK hR (by decide) (ct_there hq G _ _) (v := 201) rfl dX4_readThere_9 ?_
    refine bi_ge (tgt := 20) (a := hr.toInt) (b := 201) hC.x hC.b rfl rfl dX4_readThere_10 (by decide) (fun c_2 => ?_) (fun c_2 => ?_)
    · skip
      exact retv hC hK hR hS (by first | exact Or.inl (⟨by first | rfl | assumption, by rfl, by first | omega | assumption, by first | omega | assumption⟩) | exact Or.inr ((⟨by first | rfl | assumption, by rfl, by first | omega | assumption⟩)) | exact False.elim (by omega)) dX4_readThere_20
    · skip
      refine lv_aload_n hC.x hC.b dX4_readThere_13 rfl (lv_at hl 0 rfl) ?_
      refine rget hC hK hR (ct_link hq G _ _) rfl uin_X4 4 (by decide) TF_X4_24 rfl dX4_readThere_14 ?_
      refine lv_iload_n hC.x hC.b dX4_readThere_17 rfl (lv_at hl 1 rfl) ?_
      refine lv_iload_n hC.x hC.b dX4_readThere_18 rfl (lv_at hl 2 rfl) ?_
      refine ast hC hK hG hR hS (fun _ => ct_there hq G _ _) rfl (by omega) (by omega) rfl dX4_readThere_19 (fun s_3 es_4 H locs hR hS => ?_)
      exact retv hC hK hR hS (by first | exact Or.inl (⟨by subst es_4; (first | rfl | assumption), by subst es_4; (rfl), by subst es_4; (first | omega | assumption), by subst es_4; (first | omega | assumption)⟩) | exact Or.inr ((⟨by subst es_4; (first | rfl | assumption), by subst es_4; (rfl), by subst es_4; (first | omega | assumption)⟩)) | exact False.elim (by omega)) dX4_readThere_20

abbrev po_X4_readBack (σ : SI) (τ : SL) (q : Nat) (hr : Int32) (xa : Int32) : SI × SL → Prop := fun u => ((u.1 = up2 σ (152 + q) hr.toInt.toNat xa) ∧ (u.2 = τ) ∧ (0 ≤ hr.toInt) ∧ (hr.toInt < 201)) ∨ ((u.1 = σ) ∧ (u.2 = τ) ∧ (¬ (0 ≤ hr.toInt ∧ hr.toInt < 201)))
set_option maxRecDepth 100000 in
set_option maxHeartbeats 4000000 in
theorem c_X4_readBack (l : Launch) {G : Gx} {A : Nat → Prop} (hG : GOk G A) (σ : SI) (τ : SL) (q : Nat) (hq : q < 24) (hr : Int32) (xa : Int32) : MV l G A 0 yX4_readBack cX4_readBack 3 none [.ref (G.2.1 (104 + q)), .int hr, .int xa] (σ, τ) (po_X4_readBack σ τ q hr xa) := by
  refine met_of (own := RX4) (by decide +kernel) rfl [(0, .ref (G.2.1 (104 + q))), (1, .int hr), (2, .int xa)] rfl (Nat.le_of_ble_eq_true rfl) ?_
  intro p e s m args below meth c ls hC hK hR hl
  have hS : va_S A s.heap s.heap [] := va_S.rf
  refine lv_iload_n hC.x hC.b dX4_readBack_0 rfl (lv_at hl 1 rfl) ?_
  refine bz_lt (tgt := 20) (a := hr.toInt) (b := 0) hC.x hC.b rfl rfl dX4_readBack_1 (by decide) (fun c_1 => ?_) (fun c_1 => ?_)
  · skip
    exact retv hC hK hR hS (by first | exact Or.inl (⟨by first | rfl | assumption, by rfl, by first | omega | assumption, by first | omega | assumption⟩) | exact Or.inr ((⟨by first | rfl | assumption, by rfl, by first | omega | assumption⟩)) | exact False.elim (by omega)) dX4_readBack_20
  · skip
    refine lv_iload_n hC.x hC.b dX4_readBack_4 rfl (lv_at hl 1 rfl) ?_
    refine lv_aload_n hC.x hC.b dX4_readBack_5 rfl (lv_at hl 0 rfl) ?_
    refine rget hC hK hR (ct_link hq G _ _) rfl uin_X4 5 (by decide) TF_X4_28 rfl dX4_readBack_6 ?_
    refine ralen (t := 0) hC hK hR (by decide) (ct_back hq G _ _) (v := 201) rfl dX4_readBack_9 ?_
    refine bi_ge (tgt := 20) (a := hr.toInt) (b := 201) hC.x hC.b rfl rfl dX4_readBack_10 (by decide) (fun c_2 => ?_) (fun c_2 => ?_)
    · skip
      exact retv hC hK hR hS (by first | exact Or.inl (⟨by first | rfl | assumption, by rfl, by first | omega | assumption, by first | omega | assumption⟩) | exact Or.inr ((⟨by first | rfl | assumption, by rfl, by first | omega | assumption⟩)) | exact False.elim (by omega)) dX4_readBack_20
    · skip
      refine lv_aload_n hC.x hC.b dX4_readBack_13 rfl (lv_at hl 0 rfl) ?_
      refine rget hC hK hR (ct_link hq G _ _) rfl uin_X4 5 (by decide) TF_X4_28 rfl dX4_readBack_14 ?_
      refine lv_iload_n hC.x hC.b dX4_readBack_17 rfl (lv_at hl 1 rfl) ?_
      refine lv_iload_n hC.x hC.b dX4_readBack_18 rfl (lv_at hl 2 rfl) ?_
      refine ast hC hK hG hR hS (fun _ => ct_back hq G _ _) rfl (by omega) (by omega) rfl dX4_readBack_19 (fun s_3 es_4 H locs hR hS => ?_)
      exact retv hC hK hR hS (by first | exact Or.inl (⟨by subst es_4; (first | rfl | assumption), by subst es_4; (rfl), by subst es_4; (first | omega | assumption), by subst es_4; (first | omega | assumption)⟩) | exact Or.inr ((⟨by subst es_4; (first | rfl | assumption), by subst es_4; (rfl), by subst es_4; (first | omega | assumption)⟩)) | exact False.elim (by omega)) dX4_readBack_20

abbrev po_X4_toldAt (σ : SI) (τ : SL) (q : Nat) (hr : Int32) : Int32 → SI × SL → Prop := fun v u => u = (σ, τ) ∧ (((v = toldC σ q hr)))
set_option maxRecDepth 100000 in
set_option maxHeartbeats 4000000 in
theorem c_X4_toldAt (l : Launch) {G : Gx} {A : Nat → Prop} (hG : GOk G A) (σ : SI) (τ : SL) (q : Nat) (hq : q < 24) (hr : Int32) : MI l G A 0 yX4_toldAt cX4_toldAt 2 (some .int) [.ref (G.2.1 (104 + q)), .int hr] (σ, τ) (po_X4_toldAt σ τ q hr) := by
  refine met_of (own := RX4) (by decide +kernel) rfl [(0, .ref (G.2.1 (104 + q))), (1, .int hr)] rfl (Nat.le_of_ble_eq_true rfl) ?_
  intro p e s m args below meth c ls hC hK hR hl
  have hS : va_S A s.heap s.heap [] := va_S.rf
  refine lv_iload_n hC.x hC.b dX4_toldAt_0 rfl (lv_at hl 1 rfl) ?_
  refine bz_lt (tgt := 33) (a := hr.toInt) (b := 0) hC.x hC.b rfl rfl dX4_toldAt_1 (by decide) (fun c_1 => ?_) (fun c_1 => ?_)
  · skip
    refine lv_ldc hC.x hC.b hC.ow (hC.ts _ TK_X4_35) dX4_toldAt_33 ?_
    exact reti hC hK hR hS ⟨rfl, (by unfold toldC; repeat (first | rfl | rw [if_pos (by omega)] | rw [if_neg (by omega)]))⟩ dX4_toldAt_35
  · skip
    refine lv_iload_n hC.x hC.b dX4_toldAt_4 rfl (lv_at hl 1 rfl) ?_
    refine lv_aload_n hC.x hC.b dX4_toldAt_5 rfl (lv_at hl 0 rfl) ?_
    refine rget hC hK hR (ct_link hq G _ _) rfl uin_X4 4 (by decide) TF_X4_24 rfl dX4_toldAt_6 ?_
    refine ralen (t := 0) hC hK hR (by decide) (ct_there hq G _ _) (v := 201) rfl dX4_toldAt_9 ?_
    refine bi_ge (tgt := 33) (a := hr.toInt) (b := 201) hC.x hC.b rfl rfl dX4_toldAt_10 (by decide) (fun c_2 => ?_) (fun c_2 => ?_)
    · skip
      refine lv_ldc hC.x hC.b hC.ow (hC.ts _ TK_X4_35) dX4_toldAt_33 ?_
      exact reti hC hK hR hS ⟨rfl, (by unfold toldC; repeat (first | rfl | rw [if_pos (by omega)] | rw [if_neg (by omega)]))⟩ dX4_toldAt_35
    · skip
      refine lv_iload_n hC.x hC.b dX4_toldAt_13 rfl (lv_at hl 1 rfl) ?_
      refine lv_aload_n hC.x hC.b dX4_toldAt_14 rfl (lv_at hl 0 rfl) ?_
      refine rget hC hK hR (ct_link hq G _ _) rfl uin_X4 5 (by decide) TF_X4_28 rfl dX4_toldAt_15 ?_
      refine ralen (t := 0) hC hK hR (by decide) (ct_back hq G _ _) (v := 201) rfl dX4_toldAt_18 ?_
      refine bi_ge (tgt := 33) (a := hr.toInt) (b := 201) hC.x hC.b rfl rfl dX4_toldAt_19 (by decide) (fun c_3 => ?_) (fun c_3 => ?_)
      · skip
        refine lv_ldc hC.x hC.b hC.ow (hC.ts _ TK_X4_35) dX4_toldAt_33 ?_
        exact reti hC hK hR hS ⟨rfl, (by unfold toldC; repeat (first | rfl | rw [if_pos (by omega)] | rw [if_neg (by omega)]))⟩ dX4_toldAt_35
      · skip
        refine lv_aload_n hC.x hC.b dX4_toldAt_22 rfl (lv_at hl 0 rfl) ?_
        refine rget hC hK hR (ct_link hq G _ _) rfl uin_X4 4 (by decide) TF_X4_24 rfl dX4_toldAt_23 ?_
        refine lv_iload_n hC.x hC.b dX4_toldAt_26 rfl (lv_at hl 1 rfl) ?_
        refine ald hC hK hR (ct_there hq G _ _) rfl (by omega) (by omega) rfl dX4_toldAt_27 ?_
        refine lv_ldc hC.x hC.b hC.ow (hC.ts _ TK_X4_35) dX4_toldAt_28 ?_
        refine bi_ne (tgt := 36) (a := (σ (128 + q) hr.toInt.toNat).toInt) (b := 1000000) hC.x hC.b rfl rfl dX4_toldAt_30 (by decide) (fun c_4 => ?_) (fun c_4 => ?_)
        · skip
          refine lv_aload_n hC.x hC.b dX4_toldAt_36 rfl (lv_at hl 0 rfl) ?_
          refine rget hC hK hR (ct_link hq G _ _) rfl uin_X4 0 (by decide) TF_X4_9 rfl dX4_toldAt_37 ?_
          refine lv_iconst (v := 5) hC.x hC.b dX4_toldAt_40 (by decide) ?_
          refine bi_ne (tgt := 56) (a := (σ (104 + q) 0).toInt) (b := 5) hC.x hC.b rfl rfl dX4_toldAt_41 (by decide) (fun c_5 => ?_) (fun c_5 => ?_)
          · skip
            refine lv_aload_n hC.x hC.b dX4_toldAt_56 rfl (lv_at hl 0 rfl) ?_
            refine rget hC hK hR (ct_link hq G _ _) rfl uin_X4 0 (by decide) TF_X4_9 rfl dX4_toldAt_57 ?_
            refine lv_bipush (v := 6) hC.x hC.b dX4_toldAt_60 (by decide) ?_
            refine bi_ne (tgt := 98) (a := (σ (104 + q) 0).toInt) (b := 6) hC.x hC.b rfl rfl dX4_toldAt_62 (by decide) (fun c_6 => ?_) (fun c_6 => ?_)
            · skip
              refine lv_aload_n hC.x hC.b dX4_toldAt_98 rfl (lv_at hl 0 rfl) ?_
              refine rget hC hK hR (ct_link hq G _ _) rfl uin_X4 4 (by decide) TF_X4_24 rfl dX4_toldAt_99 ?_
              refine lv_iload_n hC.x hC.b dX4_toldAt_102 rfl (lv_at hl 1 rfl) ?_
              refine ald hC hK hR (ct_there hq G _ _) rfl (by omega) (by omega) rfl dX4_toldAt_103 ?_
              exact reti hC hK hR hS ⟨rfl, (by unfold toldC; repeat (first | rfl | rw [if_pos (by omega)] | rw [if_neg (by omega)]))⟩ dX4_toldAt_104
            · skip
              refine lv_aload_n hC.x hC.b dX4_toldAt_65 rfl (lv_at hl 0 rfl) ?_
              refine rget hC hK hR (ct_link hq G _ _) rfl uin_X4 5 (by decide) TF_X4_28 rfl dX4_toldAt_66 ?_
              refine lv_iload_n hC.x hC.b dX4_toldAt_69 rfl (lv_at hl 1 rfl) ?_
              refine ald hC hK hR (ct_back hq G _ _) rfl (by omega) (by omega) rfl dX4_toldAt_70 ?_
              refine lv_ldc hC.x hC.b hC.ow (hC.ts _ TK_X4_35) dX4_toldAt_71 ?_
              refine bi_ne (tgt := 81) (a := (σ (152 + q) hr.toInt.toNat).toInt) (b := 1000000) hC.x hC.b rfl rfl dX4_toldAt_73 (by decide) (fun c_7 => ?_) (fun c_7 => ?_)
              · skip
                refine lv_aload_n hC.x hC.b dX4_toldAt_81 rfl (lv_at hl 0 rfl) ?_
                refine rget hC hK hR (ct_link hq G _ _) rfl uin_X4 4 (by decide) TF_X4_24 rfl dX4_toldAt_82 ?_
                refine lv_iload_n hC.x hC.b dX4_toldAt_85 rfl (lv_at hl 1 rfl) ?_
                refine ald hC hK hR (ct_there hq G _ _) rfl (by omega) (by omega) rfl dX4_toldAt_86 ?_
                refine lv_aload_n hC.x hC.b dX4_toldAt_87 rfl (lv_at hl 0 rfl) ?_
                refine rget hC hK hR (ct_link hq G _ _) rfl uin_X4 5 (by decide) TF_X4_28 rfl dX4_toldAt_88 ?_
                refine lv_iload_n hC.x hC.b dX4_toldAt_91 rfl (lv_at hl 1 rfl) ?_
                refine ald hC hK hR (ct_back hq G _ _) rfl (by omega) (by omega) rfl dX4_toldAt_92 ?_
                refine lv_iadd hC.x hC.b dX4_toldAt_93 ?_
                refine lv_bipush (v := 8) hC.x hC.b dX4_toldAt_94 (by decide) ?_
                refine lv_idiv hC.x hC.b dX4_toldAt_96 (by decide) ?_
                exact reti hC hK hR hS ⟨rfl, (by unfold toldC; repeat (first | rfl | rw [if_pos (by omega)] | rw [if_neg (by omega)]))⟩ dX4_toldAt_97
              · skip
                refine lv_ldc hC.x hC.b hC.ow (hC.ts _ TK_X4_35) dX4_toldAt_76 ?_
                refine lv_goto (tgt := 97) hC.x hC.b dX4_toldAt_78 (by decide) ?_
                exact reti hC hK hR hS ⟨rfl, (by unfold toldC; repeat (first | rfl | rw [if_pos (by omega)] | rw [if_neg (by omega)]))⟩ dX4_toldAt_97
          · skip
            refine lv_aload_n hC.x hC.b dX4_toldAt_44 rfl (lv_at hl 0 rfl) ?_
            refine rget hC hK hR (ct_link hq G _ _) rfl uin_X4 4 (by decide) TF_X4_24 rfl dX4_toldAt_45 ?_
            refine lv_iload_n hC.x hC.b dX4_toldAt_48 rfl (lv_at hl 1 rfl) ?_
            refine ald hC hK hR (ct_there hq G _ _) rfl (by omega) (by omega) rfl dX4_toldAt_49 ?_
            refine lv_aload_n hC.x hC.b dX4_toldAt_50 rfl (lv_at hl 0 rfl) ?_
            refine rget hC hK hR (ct_link hq G _ _) rfl uin_X4 3 (by decide) TF_X4_21 rfl dX4_toldAt_51 ?_
            refine lv_isub hC.x hC.b dX4_toldAt_54 ?_
            exact reti hC hK hR hS ⟨rfl, (by unfold toldC; repeat (first | rfl | rw [if_pos (by omega)] | rw [if_neg (by omega)]))⟩ dX4_toldAt_55
        · skip
          refine lv_ldc hC.x hC.b hC.ow (hC.ts _ TK_X4_35) dX4_toldAt_33 ?_
          exact reti hC hK hR hS ⟨rfl, (by unfold toldC; repeat (first | rfl | rw [if_pos (by omega)] | rw [if_neg (by omega)]))⟩ dX4_toldAt_35

abbrev po_X4_otherEndFrom (σ : SI) (τ : SL) (q : Nat) (pl : Int32) : Int32 → SI × SL → Prop := fun v u => u = (σ, τ) ∧ (((v = otherC σ q pl)))
set_option maxRecDepth 100000 in
set_option maxHeartbeats 4000000 in
theorem c_X4_otherEndFrom (l : Launch) {G : Gx} {A : Nat → Prop} (hG : GOk G A) (σ : SI) (τ : SL) (q : Nat) (hq : q < 24) (pl : Int32) : MI l G A 0 yX4_otherEndFrom cX4_otherEndFrom 2 (some .int) [.ref (G.2.1 (104 + q)), .int pl] (σ, τ) (po_X4_otherEndFrom σ τ q pl) := by
  refine met_of (own := RX4) (by decide +kernel) rfl [(0, .ref (G.2.1 (104 + q))), (1, .int pl)] rfl (Nat.le_of_ble_eq_true rfl) ?_
  intro p e s m args below meth c ls hC hK hR hl
  have hS : va_S A s.heap s.heap [] := va_S.rf
  refine lv_iload_n hC.x hC.b dX4_otherEndFrom_0 rfl (lv_at hl 1 rfl) ?_
  refine lv_aload_n hC.x hC.b dX4_otherEndFrom_1 rfl (lv_at hl 0 rfl) ?_
  refine rget hC hK hR (ct_link hq G _ _) rfl uin_X4 1 (by decide) TF_X4_15 rfl dX4_otherEndFrom_2 ?_
  refine bi_ne (tgt := 13) (a := pl.toInt) (b := (σ (104 + q) 1).toInt) hC.x hC.b rfl rfl dX4_otherEndFrom_5 (by decide) (fun c_1 => ?_) (fun c_1 => ?_)
  · skip
    refine lv_iload_n hC.x hC.b dX4_otherEndFrom_13 rfl (lv_at hl 1 rfl) ?_
    refine lv_aload_n hC.x hC.b dX4_otherEndFrom_14 rfl (lv_at hl 0 rfl) ?_
    refine rget hC hK hR (ct_link hq G _ _) rfl uin_X4 2 (by decide) TF_X4_18 rfl dX4_otherEndFrom_15 ?_
    refine bi_ne (tgt := 28) (a := pl.toInt) (b := (σ (104 + q) 2).toInt) hC.x hC.b rfl rfl dX4_otherEndFrom_18 (by decide) (fun c_2 => ?_) (fun c_2 => ?_)
    · skip
      refine lv_iconst (v := (-1)) hC.x hC.b dX4_otherEndFrom_28 (by decide) ?_
      exact reti hC hK hR hS ⟨rfl, (by unfold otherC; repeat (first | rfl | rw [if_pos (by omega)] | rw [if_neg (by omega)]))⟩ dX4_otherEndFrom_29
    · skip
      refine lv_aload_n hC.x hC.b dX4_otherEndFrom_21 rfl (lv_at hl 0 rfl) ?_
      refine rget hC hK hR (ct_link hq G _ _) rfl uin_X4 1 (by decide) TF_X4_15 rfl dX4_otherEndFrom_22 ?_
      refine lv_goto (tgt := 29) hC.x hC.b dX4_otherEndFrom_25 (by decide) ?_
      exact reti hC hK hR hS ⟨rfl, (by unfold otherC; repeat (first | rfl | rw [if_pos (by omega)] | rw [if_neg (by omega)]))⟩ dX4_otherEndFrom_29
  · skip
    refine lv_aload_n hC.x hC.b dX4_otherEndFrom_8 rfl (lv_at hl 0 rfl) ?_
    refine rget hC hK hR (ct_link hq G _ _) rfl uin_X4 2 (by decide) TF_X4_18 rfl dX4_otherEndFrom_9 ?_
    exact reti hC hK hR hS ⟨rfl, (by unfold otherC; repeat (first | rfl | rw [if_pos (by omega)] | rw [if_neg (by omega)]))⟩ dX4_otherEndFrom_12

abbrev po_X4_lay (σ : SI) (τ : SL) (q : Nat) (ka : Int32) (fa : Int32) (sa : Int32) : SI × SL → Prop := fun u => ((u.2 = τ) ∧ (Torn (up2 (up2 (up2 (up2 σ (104 + q) 0 ka) (104 + q) 1 fa) (104 + q) 2 sa) (104 + q) 3 0) u.1 q))
set_option maxRecDepth 100000 in
set_option maxHeartbeats 4000000 in
theorem c_X4_lay (l : Launch) {G : Gx} {A : Nat → Prop} (hG : GOk G A) (σ : SI) (τ : SL) (q : Nat) (hq : q < 24) (ka : Int32) (fa : Int32) (sa : Int32) : MV l G A 1 yX4_lay cX4_lay 4 none [.ref (G.2.1 (104 + q)), .int ka, .int fa, .int sa] (σ, τ) (po_X4_lay σ τ q ka fa sa) := by
  refine met_of (own := RX4) (by decide +kernel) rfl [(0, .ref (G.2.1 (104 + q))), (1, .int ka), (2, .int fa), (3, .int sa)] rfl (Nat.le_of_ble_eq_true rfl) ?_
  intro p e s m args below meth c ls hC hK hR hl
  have hS : va_S A s.heap s.heap [] := va_S.rf
  refine lv_aload_n hC.x hC.b dX4_lay_0 rfl (lv_at hl 0 rfl) ?_
  refine lv_iload_n hC.x hC.b dX4_lay_1 rfl (lv_at hl 1 rfl) ?_
  refine rputi hC hK hG hR hS (ct_link hq G _ _) rfl uin_X4 tyX4 tyX4_ok nmX4 0 (by decide) TF_X4_9 rfl (Or.inl rfl) (Nat.le_of_ble_eq_true rfl) rfl (ct_link hq G _ _) dX4_lay_2 (fun s_2 es_1 H locs hR hS => ?_)
  refine lv_aload_n hC.x hC.b dX4_lay_5 rfl (lv_at hl 0 rfl) ?_
  refine lv_iload_n hC.x hC.b dX4_lay_6 rfl (lv_at hl 2 rfl) ?_
  refine rputi hC hK hG hR hS (ct_link hq G _ _) rfl uin_X4 tyX4 tyX4_ok nmX4 1 (by decide) TF_X4_15 rfl (Or.inl rfl) (Nat.le_of_ble_eq_true rfl) rfl (ct_link hq G _ _) dX4_lay_7 (fun s_4 es_3 H locs hR hS => ?_)
  refine lv_aload_n hC.x hC.b dX4_lay_10 rfl (lv_at hl 0 rfl) ?_
  refine lv_iload_n hC.x hC.b dX4_lay_11 rfl (lv_at hl 3 rfl) ?_
  refine rputi hC hK hG hR hS (ct_link hq G _ _) rfl uin_X4 tyX4 tyX4_ok nmX4 2 (by decide) TF_X4_18 rfl (Or.inl rfl) (Nat.le_of_ble_eq_true rfl) rfl (ct_link hq G _ _) dX4_lay_12 (fun s_6 es_5 H locs hR hS => ?_)
  refine lv_aload_n hC.x hC.b dX4_lay_15 rfl (lv_at hl 0 rfl) ?_
  refine lv_iconst (v := 0) hC.x hC.b dX4_lay_16 (by decide) ?_
  refine rputi hC hK hG hR hS (ct_link hq G _ _) rfl uin_X4 tyX4 tyX4_ok nmX4 3 (by decide) TF_X4_21 rfl (Or.inl rfl) (Nat.le_of_ble_eq_true rfl) rfl (ct_link hq G _ _) dX4_lay_17 (fun s_8 es_7 H locs hR hS => ?_)
  refine lv_aload_n hC.x hC.b dX4_lay_20 rfl (lv_at hl 0 rfl) ?_
  refine goi (runV (As := []) (rest := []) hC hK hR hl.1 (c_X4_dropReadings l hG s_8 τ q hq ) (call_b hC.ts TC_X4_dropReadings TN_X4 TM_X4_31 hd_X4_dropReadings ⟨Nat.le_of_ble_eq_true rfl, Nat.le_of_ble_eq_true rfl⟩) TI_X4_dropReadings TS_X4_dropReadings (ct_link hq G _ _) rfl rfl rfl (Nat.le_of_ble_eq_true rfl) dX4_lay_21 ⟨Nat.le_of_ble_eq_true rfl, Nat.le_of_ble_eq_true rfl⟩) hS (fun v_9 s_11 t_12 H locs w_10 hR hS => ?_)
  try dsimp only [po_X4_dropReadings] at w_10
  obtain ⟨rfl, et_13, f_14⟩ := w_10
  rw [et_13] at hR
  refine lv_pop hC.x hC.b dX4_lay_24 rfl ?_
  exact retv hC hK hR hS (⟨by subst es_7; subst es_5; subst es_3; subst es_1; (rfl), by subst es_7; subst es_5; subst es_3; subst es_1; (first | omega | assumption)⟩) dX4_lay_25
