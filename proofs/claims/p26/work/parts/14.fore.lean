abbrev po_X2_xOf (σ : SI) (τ : SL) (cq : Nat) (hr : Int32) : Int32 → SI × SL → Prop := fun v u => u = (σ, τ) ∧ (True)
set_option maxRecDepth 100000 in
set_option maxHeartbeats 4000000 in
theorem c_X2_xOf (l : Launch) {G : Gx} {A : Nat → Prop} (hG : GOk G A) (σ : SI) (τ : SL) (cq : Nat) (hcq : cq < 24) (hr : Int32) : MI l G A 1 yX2_xOf cX2_xOf 3 (some .int) [.ref (G.2.1 18), .ref (G.2.1 (80 + cq)), .int hr] (σ, τ) (po_X2_xOf σ τ cq hr) := by
  refine met_of (own := RX2) (by decide +kernel) rfl [(0, .ref (G.2.1 18)), (1, .ref (G.2.1 (80 + cq))), (2, .int hr)] rfl (Nat.le_of_ble_eq_true rfl) ?_
  intro p e s m args below meth c ls hC hK hR hl
  have hS : va_S A s.heap s.heap [] := va_S.rf
  refine lv_iload_n hC.x hC.b dX2_xOf_0 rfl (lv_at hl 2 rfl) ?_
  refine lv_aload_n hC.x hC.b dX2_xOf_1 rfl (lv_at hl 1 rfl) ?_
  refine rget hC hK hR (ct_clock hcq G _ _) rfl uin_X0 8 (by decide) TF_X2_39 rfl dX2_xOf_2 ?_
  refine bi_ge (tgt := 13) (a := hr.toInt) (b := (σ (80 + cq) 8).toInt) hC.x hC.b rfl rfl dX2_xOf_5 (by decide) (fun c_1 => ?_) (fun c_1 => ?_)
  · skip
    refine lv_aload_n hC.x hC.b dX2_xOf_13 rfl (lv_at hl 0 rfl) ?_
    refine rget hC hK hR (ct_fore G _ _) rfl uin_X2 0 (by decide) TF_X2_35 rfl dX2_xOf_14 ?_
    refine lv_iconst (v := 0) hC.x hC.b dX2_xOf_17 (by decide) ?_
    refine lv_iload_n hC.x hC.b dX2_xOf_18 rfl (lv_at hl 2 rfl) ?_
    refine lv_aload_n hC.x hC.b dX2_xOf_19 rfl (lv_at hl 1 rfl) ?_
    refine rget hC hK hR (ct_clock hcq G _ _) rfl uin_X0 0 (by decide) TF_X2_45 rfl dX2_xOf_20 ?_
    have av_2 : (0 : Int32).toInt = 0 := by decide
    have av_3 : (nI cq).toInt = ((cq : Nat) : Int) := (nI_T _ (by omega))
    refine goip (runV (As := [.int (0 : Int32), .int hr, .int (nI cq)]) (rest := []) hC hK hR hl.1 (c_X7_ofClock l hG σ τ (0 : Int32) hr (nI cq) ) (call_b hC.ts TC_X7_ofClock TN_X7 TM_X2_48 hd_X7_ofClock ⟨Nat.le_of_ble_eq_true rfl, Nat.le_of_ble_eq_true rfl⟩) TI_X7_ofClock TS_X7_ofClock (ct_told G _ _) rfl rfl rfl (Nat.le_of_ble_eq_true rfl) dX2_xOf_23 ⟨Nat.le_of_ble_eq_true rfl, Nat.le_of_ble_eq_true rfl⟩) hS (fun v_4 H locs w_5 hR hS => ?_)
    exact reti hC hK hR hS ⟨rfl, (trivial)⟩ dX2_xOf_26
  · skip
    refine lv_ldc hC.x hC.b hC.ow (hC.ts _ TK_X2_44) dX2_xOf_8 ?_
    refine lv_goto (tgt := 26) hC.x hC.b dX2_xOf_10 (by decide) ?_
    exact reti hC hK hR hS ⟨rfl, (trivial)⟩ dX2_xOf_26

abbrev po_X2_missedOf (σ : SI) (τ : SL) (cq : Nat) (hr : Int32) : Int32 → SI × SL → Prop := fun v u => u = (σ, τ) ∧ (True)
set_option maxRecDepth 100000 in
set_option maxHeartbeats 4000000 in
theorem c_X2_missedOf (l : Launch) {G : Gx} {A : Nat → Prop} (hG : GOk G A) (σ : SI) (τ : SL) (cq : Nat) (hcq : cq < 24) (hr : Int32) : MI l G A 1 yX2_missedOf cX2_missedOf 3 (some .int) [.ref (G.2.1 18), .ref (G.2.1 (80 + cq)), .int hr] (σ, τ) (po_X2_missedOf σ τ cq hr) := by
  refine met_of (own := RX2) (by decide +kernel) rfl [(0, .ref (G.2.1 18)), (1, .ref (G.2.1 (80 + cq))), (2, .int hr)] rfl (Nat.le_of_ble_eq_true rfl) ?_
  intro p e s m args below meth c ls hC hK hR hl
  have hS : va_S A s.heap s.heap [] := va_S.rf
  refine lv_iload_n hC.x hC.b dX2_missedOf_0 rfl (lv_at hl 2 rfl) ?_
  refine lv_aload_n hC.x hC.b dX2_missedOf_1 rfl (lv_at hl 1 rfl) ?_
  refine rget hC hK hR (ct_clock hcq G _ _) rfl uin_X0 8 (by decide) TF_X2_39 rfl dX2_missedOf_2 ?_
  refine bi_ge (tgt := 13) (a := hr.toInt) (b := (σ (80 + cq) 8).toInt) hC.x hC.b rfl rfl dX2_missedOf_5 (by decide) (fun c_1 => ?_) (fun c_1 => ?_)
  · skip
    refine lv_aload_n hC.x hC.b dX2_missedOf_13 rfl (lv_at hl 0 rfl) ?_
    refine rget hC hK hR (ct_fore G _ _) rfl uin_X2 0 (by decide) TF_X2_35 rfl dX2_missedOf_14 ?_
    refine lv_iconst (v := 2) hC.x hC.b dX2_missedOf_17 (by decide) ?_
    refine lv_iload_n hC.x hC.b dX2_missedOf_18 rfl (lv_at hl 2 rfl) ?_
    refine lv_aload_n hC.x hC.b dX2_missedOf_19 rfl (lv_at hl 1 rfl) ?_
    refine rget hC hK hR (ct_clock hcq G _ _) rfl uin_X0 0 (by decide) TF_X2_45 rfl dX2_missedOf_20 ?_
    have av_2 : (2 : Int32).toInt = 2 := by decide
    have av_3 : (nI cq).toInt = ((cq : Nat) : Int) := (nI_T _ (by omega))
    refine goip (runV (As := [.int (2 : Int32), .int hr, .int (nI cq)]) (rest := []) hC hK hR hl.1 (c_X7_ofClock l hG σ τ (2 : Int32) hr (nI cq) ) (call_b hC.ts TC_X7_ofClock TN_X7 TM_X2_48 hd_X7_ofClock ⟨Nat.le_of_ble_eq_true rfl, Nat.le_of_ble_eq_true rfl⟩) TI_X7_ofClock TS_X7_ofClock (ct_told G _ _) rfl rfl rfl (Nat.le_of_ble_eq_true rfl) dX2_missedOf_23 ⟨Nat.le_of_ble_eq_true rfl, Nat.le_of_ble_eq_true rfl⟩) hS (fun v_4 H locs w_5 hR hS => ?_)
    exact reti hC hK hR hS ⟨rfl, (trivial)⟩ dX2_missedOf_26
  · skip
    refine lv_ldc hC.x hC.b hC.ow (hC.ts _ TK_X2_44) dX2_missedOf_8 ?_
    refine lv_goto (tgt := 26) hC.x hC.b dX2_missedOf_10 (by decide) ?_
    exact reti hC hK hR hS ⟨rfl, (trivial)⟩ dX2_missedOf_26

abbrev po_X2_countXs (σ : SI) (τ : SL) (cq : Nat) (hr : Int32) : Int32 → SI × SL → Prop := fun v u => u = (σ, τ) ∧ (True)
set_option maxRecDepth 100000 in
set_option maxHeartbeats 4000000 in
theorem c_X2_countXs (l : Launch) {G : Gx} {A : Nat → Prop} (hG : GOk G A) (σ : SI) (τ : SL) (cq : Nat) (hcq : cq < 24) (hr : Int32) : MI l G A 2 yX2_countXs cX2_countXs 5 (some .int) [.ref (G.2.1 18), .ref (G.2.1 (80 + cq)), .int hr] (σ, τ) (po_X2_countXs σ τ cq hr) := by
  refine met_of (own := RX2) (by decide +kernel) rfl [(0, .ref (G.2.1 18)), (1, .ref (G.2.1 (80 + cq))), (2, .int hr)] rfl (Nat.le_of_ble_eq_true rfl) ?_
  intro p e s m args below meth c ls hC hK hR hl
  have hS : va_S A s.heap s.heap [] := va_S.rf
  refine lv_iconst (v := 0) hC.x hC.b dX2_countXs_0 (by decide) ?_
  refine lv_istore_n (lv' := [(3, .int (0 : Int32)), (0, .ref (G.2.1 18)), (1, .ref (G.2.1 (80 + cq))), (2, .int hr)]) hC.x hC.b dX2_countXs_1 rfl hl (by decide) rfl (fun ls hl => ?_)
  refine lv_aload_n hC.x hC.b dX2_countXs_2 rfl (lv_at hl 2 rfl) ?_
  refine rget hC hK hR (ct_clock hcq G _ _) rfl uin_X0 8 (by decide) TF_X2_39 rfl dX2_countXs_3 ?_
  refine lv_istore (lv' := [(4, .int (σ (80 + cq) 8)), (3, .int (0 : Int32)), (0, .ref (G.2.1 18)), (1, .ref (G.2.1 (80 + cq))), (2, .int hr)]) hC.x hC.b dX2_countXs_6 hl (by decide) rfl (fun ls hl => ?_)
  have L_8 : ∀ (F : Nat) (x3 : Int32) (t : Int32), ((hr.toInt - t.toInt).toNat) < F → ∀ (H : Heap) (locs : List Loc) (ls : Array Slot), RepH G σ τ H → va_S A s.heap H locs → lv_has ls 5 [(0, .ref (G.2.1 18)), (1, .ref (G.2.1 (80 + cq))), (2, .int hr), (3, .int x3), (4, .int t)] → W p l e (rmD 2) s m args below meth c H locs 0 0 (MQ below (va_Qi (po_X2_countXs σ τ cq hr) (BU G) A) args s 0 0 A) (F0 m 8 ls []) := by
    intro F
    induction F with
    | zero => intro x3 t hm; exact absurd hm (Nat.not_lt_zero _)
    | succ F ih_8 =>
      intro x3 t hm_8  H locs ls hR hS hl
      have tlo := i32_lo t
      have hhi := i32_hi hr
      refine lv_iload hC.x hC.b dX2_countXs_8 (lv_at hl 4 rfl) ?_
      refine lv_iload_n hC.x hC.b dX2_countXs_10 rfl (lv_at hl 2 rfl) ?_
      refine bi_ge (tgt := 35) (a := t.toInt) (b := hr.toInt) hC.x hC.b rfl rfl dX2_countXs_11 (by decide) (fun c_1 => ?_) (fun c_1 => ?_)
      · skip
        refine lv_iload_n hC.x hC.b dX2_countXs_35 rfl (lv_at hl 3 rfl) ?_
        exact reti hC hK hR hS ⟨rfl, (trivial)⟩ dX2_countXs_36
      · skip
        refine lv_aload_n hC.x hC.b dX2_countXs_14 rfl (lv_at hl 0 rfl) ?_
        refine lv_aload_n hC.x hC.b dX2_countXs_15 rfl (lv_at hl 1 rfl) ?_
        refine lv_iload hC.x hC.b dX2_countXs_16 (lv_at hl 4 rfl) ?_
        refine goip (runV (As := [.ref (G.2.1 (80 + cq)), .int t]) (rest := []) hC hK hR hl.1 (c_X2_xOf l hG σ τ cq hcq t ) (call_b hC.ts TC_X2_xOf TN_X2 TM_X2_54 hd_X2_xOf ⟨Nat.le_of_ble_eq_true rfl, Nat.le_of_ble_eq_true rfl⟩) TI_X2_xOf TS_X2_xOf (ct_fore G _ _) rfl rfl rfl (Nat.le_of_ble_eq_true rfl) dX2_countXs_18 ⟨Nat.le_of_ble_eq_true rfl, Nat.le_of_ble_eq_true rfl⟩) hS (fun v_2 H locs w_3 hR hS => ?_)
        refine lv_ldc hC.x hC.b hC.ow (hC.ts _ TK_X2_44) dX2_countXs_21 ?_
        refine bi_eq (tgt := 29) (a := v_2.toInt) (b := 2000000000) hC.x hC.b rfl rfl dX2_countXs_23 (by decide) (fun c_4 => ?_) (fun c_4 => ?_)
        · skip
          obtain ⟨x_5, ex_6⟩ : ∃ y : Int32, y = t + 1 := ⟨_, rfl⟩
          have pr_7 : x_5.toInt = t.toInt + (1) := by rw [ex_6]; exact addI rfl rfl (by omega) (by omega)
          refine lv_iinc (v := x_5) (lv' := [(4, .int x_5), (0, .ref (G.2.1 18)), (1, .ref (G.2.1 (80 + cq))), (2, .int hr), (3, .int x3)]) hC.x hC.b dX2_countXs_29 hl (k := 4) rfl ex_6.symm (by decide) rfl (fun ls hl => ?_)
          refine lv_goto (tgt := 8) hC.x hC.b dX2_countXs_32 (by decide) ?_
          exact ih_8 x3 x_5 (by omega)  _ _ _ hR hS (lv_sub hl [1, 2, 3, 4, 0] rfl)
        · skip
          obtain ⟨x_8, ex_9⟩ : ∃ y : Int32, y = x3 + 1 := ⟨_, rfl⟩
          refine lv_iinc (v := x_8) (lv' := [(3, .int x_8), (0, .ref (G.2.1 18)), (1, .ref (G.2.1 (80 + cq))), (2, .int hr), (4, .int t)]) hC.x hC.b dX2_countXs_26 hl (k := 3) rfl ex_9.symm (by decide) rfl (fun ls hl => ?_)
          obtain ⟨x_10, ex_11⟩ : ∃ y : Int32, y = t + 1 := ⟨_, rfl⟩
          have pr_12 : x_10.toInt = t.toInt + (1) := by rw [ex_11]; exact addI rfl rfl (by omega) (by omega)
          refine lv_iinc (v := x_10) (lv' := [(4, .int x_10), (3, .int x_8), (0, .ref (G.2.1 18)), (1, .ref (G.2.1 (80 + cq))), (2, .int hr)]) hC.x hC.b dX2_countXs_29 hl (k := 4) rfl ex_11.symm (by decide) rfl (fun ls hl => ?_)
          refine lv_goto (tgt := 8) hC.x hC.b dX2_countXs_32 (by decide) ?_
          exact ih_8 x_8 x_10 (by omega)  _ _ _ hR hS (lv_sub hl [2, 3, 4, 1, 0] rfl)
  exact L_8 _ (0 : Int32) (σ (80 + cq) 8) (Nat.lt_succ_self _)  _ _ _ hR hS (lv_sub hl [2, 3, 4, 1, 0] rfl)

abbrev po_X2_lineOf (G : Gx) (σ : SI) (τ : SL) (cq : Nat) (hr : Int32) : Option Nat → SI × SL → Prop := fun v u => ((v = some (G.2.1 19)) ∧ (Fr (fun k => 18 ≤ k ∧ k ≤ 20) σ u.1)) ∨ ((v = some (G.2.1 20)) ∧ (Fr (fun k => 18 ≤ k ∧ k ≤ 20) σ u.1))
set_option maxRecDepth 100000 in
set_option maxHeartbeats 4000000 in
theorem c_X2_lineOf (l : Launch) {G : Gx} {A : Nat → Prop} (hG : GOk G A) (σ : SI) (τ : SL) (cq : Nat) (hcq : cq < 24) (hr : Int32) : MR l G A 2 yX2_lineOf cX2_lineOf 6 (some (.object "TimeBench$Line")) [.ref (G.2.1 18), .ref (G.2.1 (80 + cq)), .int hr] (σ, τ) (po_X2_lineOf G σ τ cq hr) := by
  refine met_of (own := RX2) (by decide +kernel) rfl [(0, .ref (G.2.1 18)), (1, .ref (G.2.1 (80 + cq))), (2, .int hr)] rfl (Nat.le_of_ble_eq_true rfl) ?_
  intro p e s m args below meth c ls hC hK hR hl
  have hS : va_S A s.heap s.heap [] := va_S.rf
  refine lv_aload_n hC.x hC.b dX2_lineOf_0 rfl (lv_at hl 0 rfl) ?_
  refine rget hC hK hR (ct_fore G _ _) rfl uin_X2 1 (by decide) TF_X2_12 rfl dX2_lineOf_1 ?_
  refine gov (runV (As := []) (rest := []) hC hK hR hl.1 (c_X3_clear l hG σ τ 19 (by decide) ) (call_b hC.ts TC_X3_clear TN_X3 TM_X2_58 hd_X3_clear ⟨Nat.le_of_ble_eq_true rfl, Nat.le_of_ble_eq_true rfl⟩) TI_X3_clear TS_X3_clear (ct_xs G _ _) rfl rfl rfl (Nat.le_of_ble_eq_true rfl) dX2_lineOf_4 ⟨Nat.le_of_ble_eq_true rfl, Nat.le_of_ble_eq_true rfl⟩) hS (fun s_3 t_4 H locs w_2 hR hS => ?_)
  try dsimp only [po_X3_clear] at w_2
  have f_5 := w_2
  refine lv_aload_n hC.x hC.b dX2_lineOf_7 rfl (lv_at hl 0 rfl) ?_
  refine rget hC hK hR (ct_fore G _ _) rfl uin_X2 2 (by decide) TF_X2_18 rfl dX2_lineOf_8 ?_
  refine gov (runV (As := []) (rest := []) hC hK hR hl.1 (c_X3_clear l hG s_3 t_4 20 (by decide) ) (call_b hC.ts TC_X3_clear TN_X3 TM_X2_58 hd_X3_clear ⟨Nat.le_of_ble_eq_true rfl, Nat.le_of_ble_eq_true rfl⟩) TI_X3_clear TS_X3_clear (ct_gains G _ _) rfl rfl rfl (Nat.le_of_ble_eq_true rfl) dX2_lineOf_11 ⟨Nat.le_of_ble_eq_true rfl, Nat.le_of_ble_eq_true rfl⟩) hS (fun s_8 t_9 H locs w_7 hR hS => ?_)
  try dsimp only [po_X3_clear] at w_7
  have f_10 := w_7
  refine lv_ldc hC.x hC.b hC.ow (hC.ts _ TK_X2_44) dX2_lineOf_14 ?_
  refine lv_istore_n (lv' := [(3, .int (2000000000 : Int32)), (0, .ref (G.2.1 18)), (1, .ref (G.2.1 (80 + cq))), (2, .int hr)]) hC.x hC.b dX2_lineOf_16 rfl hl (by decide) rfl (fun ls hl => ?_)
  refine lv_iload_n hC.x hC.b dX2_lineOf_17 rfl (lv_at hl 3 rfl) ?_
  refine lv_aload_n hC.x hC.b dX2_lineOf_18 rfl (lv_at hl 2 rfl) ?_
  refine rget hC hK hR (ct_clock hcq G _ _) rfl uin_X0 2 (by decide) TF_X2_61 rfl dX2_lineOf_19 ?_
  have rd_11 : (s_8 (80 + cq) 2).toInt = (σ (80 + cq) 2).toInt := congrArg Int32.toInt (Eq.trans (show s_8 (80 + cq) 2 = s_3 (80 + cq) 2 from congrFun (f_10 (80 + cq) (by first | omega | (dsimp only; omega))) 2) (show s_3 (80 + cq) 2 = σ (80 + cq) 2 from congrFun (f_5 (80 + cq) (by first | omega | (dsimp only; omega))) 2))
  refine lv_isub hC.x hC.b dX2_lineOf_22 ?_
  refine lv_topi (fun x_12 ex_13 => ?_)
  refine lv_istore (lv' := [(4, .int x_12), (3, .int (2000000000 : Int32)), (0, .ref (G.2.1 18)), (1, .ref (G.2.1 (80 + cq))), (2, .int hr)]) hC.x hC.b dX2_lineOf_23 hl (by decide) rfl (fun ls hl => ?_)
  have L_25 : ∀ (F : Nat) (x3 : Int32) (t : Int32) (s1 : SI) (t1 : SL), ((hr.toInt - t.toInt).toNat) < F → (Fr (fun k => 18 ≤ k ∧ k ≤ 20) σ s1) → ∀ (H : Heap) (locs : List Loc) (ls : Array Slot), RepH G s1 t1 H → va_S A s.heap H locs → lv_has ls 6 [(0, .ref (G.2.1 18)), (1, .ref (G.2.1 (80 + cq))), (2, .int hr), (3, .int x3), (4, .int t)] → W p l e (rmD 2) s m args below meth c H locs 0 0 (MQ below (va_Qq (po_X2_lineOf G σ τ cq hr) (BU G) A) args s 0 0 A) (F0 m 25 ls []) := by
    intro F
    induction F with
    | zero => intro x3 t s1 t1 hm; exact absurd hm (Nat.not_lt_zero _)
    | succ F ih_25 =>
      intro x3 t s1 t1 hm_25 hi0_25 H locs ls hR hS hl
      have tlo := i32_lo t
      have hhi := i32_hi hr
      refine lv_iload hC.x hC.b dX2_lineOf_25 (lv_at hl 4 rfl) ?_
      refine lv_iload_n hC.x hC.b dX2_lineOf_27 rfl (lv_at hl 2 rfl) ?_
      refine bi_ge (tgt := 102) (a := t.toInt) (b := hr.toInt) hC.x hC.b rfl rfl dX2_lineOf_28 (by decide) (fun c_14 => ?_) (fun c_14 => ?_)
      · skip
        refine lv_aload_n hC.x hC.b dX2_lineOf_102 rfl (lv_at hl 1 rfl) ?_
        refine rget hC hK hR (ct_clock hcq G _ _) rfl uin_X0 1 (by decide) TF_X2_68 rfl dX2_lineOf_103 ?_
        have rd_15 : (s1 (80 + cq) 1).toInt = (σ (80 + cq) 1).toInt := congrArg Int32.toInt (show s1 (80 + cq) 1 = σ (80 + cq) 1 from congrFun (hi0_25 (80 + cq) (by first | omega | (dsimp only; omega))) 1)
        refine lv_iconst (v := 2) hC.x hC.b dX2_lineOf_106 (by decide) ?_
        refine bi_ne (tgt := 131) (a := (s1 (80 + cq) 1).toInt) (b := 2) hC.x hC.b rfl rfl dX2_lineOf_107 (by decide) (fun c_16 => ?_) (fun c_16 => ?_)
        · skip
          refine lv_iconst (v := 0) hC.x hC.b dX2_lineOf_131 (by decide) ?_
          refine lv_istore (lv' := [(4, .int (0 : Int32)), (0, .ref (G.2.1 18)), (1, .ref (G.2.1 (80 + cq))), (2, .int hr), (3, .int x3)]) hC.x hC.b dX2_lineOf_132 hl (by decide) rfl (fun ls hl => ?_)
          refine lv_aload_n hC.x hC.b dX2_lineOf_134 rfl (lv_at hl 1 rfl) ?_
          refine lv_iload hC.x hC.b dX2_lineOf_135 (lv_at hl 0 rfl) ?_
          refine bz_eq (tgt := 145) (a := 0) (b := 0) hC.x hC.b rfl rfl dX2_lineOf_137 (by decide) (fun _ => ?_) (fun c_17 => absurd c_17 (by decide))
          refine lv_lconst (v := 0) hC.x hC.b dX2_lineOf_145 (by decide) ?_
          refine rputl hC hK hG hR hS (ct_fore G _ _) rfl uin_X2 tyX2 tyX2_ok nmX2 3 (by decide) TF_X2_21 rfl rfl (Nat.le_of_ble_eq_true rfl) rfl (ct_fore G _ _) dX2_lineOf_146 (fun t_19 es_18 H locs hR hS => ?_)
          refine lv_iload hC.x hC.b dX2_lineOf_149 (lv_at hl 0 rfl) ?_
          refine bz_eq (tgt := 161) (a := 0) (b := 0) hC.x hC.b rfl rfl dX2_lineOf_151 (by decide) (fun _ => ?_) (fun c_20 => absurd c_20 (by decide))
          refine lv_aload_n hC.x hC.b dX2_lineOf_161 rfl (lv_at hl 1 rfl) ?_
          refine rget hC hK hR (ct_fore G _ _) rfl uin_X2 1 (by decide) TF_X2_12 rfl dX2_lineOf_162 ?_
          exact reta hC hK hR hS (by first | exact Or.inl (⟨by subst es_18; (first | rfl | omega), by exact hi0_25⟩) | exact Or.inr ((⟨by subst es_18; (first | rfl | omega), by exact hi0_25⟩)) | exact False.elim (by omega)) dX2_lineOf_165
        · skip
          refine lv_aload_n hC.x hC.b dX2_lineOf_110 rfl (lv_at hl 0 rfl) ?_
          refine rget hC hK hR (ct_fore G _ _) rfl uin_X2 2 (by decide) TF_X2_18 rfl dX2_lineOf_111 ?_
          refine goip (runV (As := []) (rest := []) hC hK hR hl.1 (c_X3_count l hG s1 t1 20 (by decide) ) (call_b hC.ts TC_X3_count TN_X3 TM_X2_71 hd_X3_count ⟨Nat.le_of_ble_eq_true rfl, Nat.le_of_ble_eq_true rfl⟩) TI_X3_count TS_X3_count (ct_gains G _ _) rfl rfl rfl (Nat.le_of_ble_eq_true rfl) dX2_lineOf_114 ⟨Nat.le_of_ble_eq_true rfl, Nat.le_of_ble_eq_true rfl⟩) hS (fun v_21 H locs w_22 hR hS => ?_)
          subst w_22
          refine lv_iconst (v := 2) hC.x hC.b dX2_lineOf_117 (by decide) ?_
          refine bi_lt (tgt := 131) (a := (s1 20 0).toInt) (b := 2) hC.x hC.b rfl rfl dX2_lineOf_118 (by decide) (fun c_23 => ?_) (fun c_23 => ?_)
          · skip
            refine lv_iconst (v := 0) hC.x hC.b dX2_lineOf_131 (by decide) ?_
            refine lv_istore (lv' := [(4, .int (0 : Int32)), (0, .ref (G.2.1 18)), (1, .ref (G.2.1 (80 + cq))), (2, .int hr), (3, .int x3)]) hC.x hC.b dX2_lineOf_132 hl (by decide) rfl (fun ls hl => ?_)
            refine lv_aload_n hC.x hC.b dX2_lineOf_134 rfl (lv_at hl 1 rfl) ?_
            refine lv_iload hC.x hC.b dX2_lineOf_135 (lv_at hl 0 rfl) ?_
            refine bz_eq (tgt := 145) (a := 0) (b := 0) hC.x hC.b rfl rfl dX2_lineOf_137 (by decide) (fun _ => ?_) (fun c_24 => absurd c_24 (by decide))
            refine lv_lconst (v := 0) hC.x hC.b dX2_lineOf_145 (by decide) ?_
            refine rputl hC hK hG hR hS (ct_fore G _ _) rfl uin_X2 tyX2 tyX2_ok nmX2 3 (by decide) TF_X2_21 rfl rfl (Nat.le_of_ble_eq_true rfl) rfl (ct_fore G _ _) dX2_lineOf_146 (fun t_26 es_25 H locs hR hS => ?_)
            refine lv_iload hC.x hC.b dX2_lineOf_149 (lv_at hl 0 rfl) ?_
            refine bz_eq (tgt := 161) (a := 0) (b := 0) hC.x hC.b rfl rfl dX2_lineOf_151 (by decide) (fun _ => ?_) (fun c_27 => absurd c_27 (by decide))
            refine lv_aload_n hC.x hC.b dX2_lineOf_161 rfl (lv_at hl 1 rfl) ?_
            refine rget hC hK hR (ct_fore G _ _) rfl uin_X2 1 (by decide) TF_X2_12 rfl dX2_lineOf_162 ?_
            exact reta hC hK hR hS (by first | exact Or.inl (⟨by subst es_25; (first | rfl | omega), by exact hi0_25⟩) | exact Or.inr ((⟨by subst es_25; (first | rfl | omega), by exact hi0_25⟩)) | exact False.elim (by omega)) dX2_lineOf_165
          · skip
            refine lv_iload_n hC.x hC.b dX2_lineOf_121 rfl (lv_at hl 3 rfl) ?_
            refine lv_ldc hC.x hC.b hC.ow (hC.ts _ TK_X2_44) dX2_lineOf_122 ?_
            refine bi_eq (tgt := 131) (a := x3.toInt) (b := 2000000000) hC.x hC.b rfl rfl dX2_lineOf_124 (by decide) (fun c_28 => ?_) (fun c_28 => ?_)
            · skip
              refine lv_iconst (v := 0) hC.x hC.b dX2_lineOf_131 (by decide) ?_
              refine lv_istore (lv' := [(4, .int (0 : Int32)), (0, .ref (G.2.1 18)), (1, .ref (G.2.1 (80 + cq))), (2, .int hr), (3, .int x3)]) hC.x hC.b dX2_lineOf_132 hl (by decide) rfl (fun ls hl => ?_)
              refine lv_aload_n hC.x hC.b dX2_lineOf_134 rfl (lv_at hl 1 rfl) ?_
              refine lv_iload hC.x hC.b dX2_lineOf_135 (lv_at hl 0 rfl) ?_
              refine bz_eq (tgt := 145) (a := 0) (b := 0) hC.x hC.b rfl rfl dX2_lineOf_137 (by decide) (fun _ => ?_) (fun c_29 => absurd c_29 (by decide))
              refine lv_lconst (v := 0) hC.x hC.b dX2_lineOf_145 (by decide) ?_
              refine rputl hC hK hG hR hS (ct_fore G _ _) rfl uin_X2 tyX2 tyX2_ok nmX2 3 (by decide) TF_X2_21 rfl rfl (Nat.le_of_ble_eq_true rfl) rfl (ct_fore G _ _) dX2_lineOf_146 (fun t_31 es_30 H locs hR hS => ?_)
              refine lv_iload hC.x hC.b dX2_lineOf_149 (lv_at hl 0 rfl) ?_
              refine bz_eq (tgt := 161) (a := 0) (b := 0) hC.x hC.b rfl rfl dX2_lineOf_151 (by decide) (fun _ => ?_) (fun c_32 => absurd c_32 (by decide))
              refine lv_aload_n hC.x hC.b dX2_lineOf_161 rfl (lv_at hl 1 rfl) ?_
              refine rget hC hK hR (ct_fore G _ _) rfl uin_X2 1 (by decide) TF_X2_12 rfl dX2_lineOf_162 ?_
              exact reta hC hK hR hS (by first | exact Or.inl (⟨by subst es_30; (first | rfl | omega), by exact hi0_25⟩) | exact Or.inr ((⟨by subst es_30; (first | rfl | omega), by exact hi0_25⟩)) | exact False.elim (by omega)) dX2_lineOf_165
            · skip
              refine lv_iconst (v := 1) hC.x hC.b dX2_lineOf_127 (by decide) ?_
              refine lv_goto (tgt := 132) hC.x hC.b dX2_lineOf_128 (by decide) ?_
              refine lv_istore (lv' := [(4, .int (1 : Int32)), (0, .ref (G.2.1 18)), (1, .ref (G.2.1 (80 + cq))), (2, .int hr), (3, .int x3)]) hC.x hC.b dX2_lineOf_132 hl (by decide) rfl (fun ls hl => ?_)
              refine lv_aload_n hC.x hC.b dX2_lineOf_134 rfl (lv_at hl 1 rfl) ?_
              refine lv_iload hC.x hC.b dX2_lineOf_135 (lv_at hl 0 rfl) ?_
              refine bz_eq (tgt := 145) (a := 1) (b := 0) hC.x hC.b rfl rfl dX2_lineOf_137 (by decide) (fun c_33 => absurd c_33 (by decide)) (fun _ => ?_)
              refine lv_iload_n hC.x hC.b dX2_lineOf_140 rfl (lv_at hl 4 rfl) ?_
              refine lv_i2l hC.x hC.b dX2_lineOf_141 rfl ?_
              refine lv_goto (tgt := 146) hC.x hC.b dX2_lineOf_142 (by decide) ?_
              refine rputl hC hK hG hR hS (ct_fore G _ _) rfl uin_X2 tyX2 tyX2_ok nmX2 3 (by decide) TF_X2_21 rfl rfl (Nat.le_of_ble_eq_true rfl) rfl (ct_fore G _ _) dX2_lineOf_146 (fun t_35 es_34 H locs hR hS => ?_)
              refine lv_iload hC.x hC.b dX2_lineOf_149 (lv_at hl 0 rfl) ?_
              refine bz_eq (tgt := 161) (a := 1) (b := 0) hC.x hC.b rfl rfl dX2_lineOf_151 (by decide) (fun c_36 => absurd c_36 (by decide)) (fun _ => ?_)
              refine lv_aload_n hC.x hC.b dX2_lineOf_154 rfl (lv_at hl 1 rfl) ?_
              refine rget hC hK hR (ct_fore G _ _) rfl uin_X2 2 (by decide) TF_X2_18 rfl dX2_lineOf_155 ?_
              refine lv_goto (tgt := 165) hC.x hC.b dX2_lineOf_158 (by decide) ?_
              exact reta hC hK hR hS (by first | exact Or.inl (⟨by subst es_34; (first | rfl | omega), by exact hi0_25⟩) | exact Or.inr ((⟨by subst es_34; (first | rfl | omega), by exact hi0_25⟩)) | exact False.elim (by omega)) dX2_lineOf_165
      · skip
        refine lv_aload_n hC.x hC.b dX2_lineOf_31 rfl (lv_at hl 0 rfl) ?_
        refine lv_aload_n hC.x hC.b dX2_lineOf_32 rfl (lv_at hl 1 rfl) ?_
        refine lv_iload hC.x hC.b dX2_lineOf_33 (lv_at hl 4 rfl) ?_
        refine goip (runV (As := [.ref (G.2.1 (80 + cq)), .int t]) (rest := []) hC hK hR hl.1 (c_X2_xOf l hG s1 t1 cq hcq t ) (call_b hC.ts TC_X2_xOf TN_X2 TM_X2_54 hd_X2_xOf ⟨Nat.le_of_ble_eq_true rfl, Nat.le_of_ble_eq_true rfl⟩) TI_X2_xOf TS_X2_xOf (ct_fore G _ _) rfl rfl rfl (Nat.le_of_ble_eq_true rfl) dX2_lineOf_35 ⟨Nat.le_of_ble_eq_true rfl, Nat.le_of_ble_eq_true rfl⟩) hS (fun v_37 H locs w_38 hR hS => ?_)
        refine lv_istore (lv' := [(5, .int v_37), (0, .ref (G.2.1 18)), (1, .ref (G.2.1 (80 + cq))), (2, .int hr), (3, .int x3), (4, .int t)]) hC.x hC.b dX2_lineOf_38 hl (by decide) rfl (fun ls hl => ?_)
        refine lv_iload hC.x hC.b dX2_lineOf_40 (lv_at hl 0 rfl) ?_
        refine lv_ldc hC.x hC.b hC.ow (hC.ts _ TK_X2_44) dX2_lineOf_42 ?_
        refine bi_eq (tgt := 62) (a := v_37.toInt) (b := 2000000000) hC.x hC.b rfl rfl dX2_lineOf_44 (by decide) (fun c_39 => ?_) (fun c_39 => ?_)
        · skip
          refine lv_iload hC.x hC.b dX2_lineOf_62 (lv_at hl 0 rfl) ?_
          refine lv_ldc hC.x hC.b hC.ow (hC.ts _ TK_X2_44) dX2_lineOf_64 ?_
          refine bi_eq (tgt := 93) (a := v_37.toInt) (b := 2000000000) hC.x hC.b rfl rfl dX2_lineOf_66 (by decide) (fun c_40 => ?_) (fun c_40 => ?_)
          · skip
            refine lv_iload hC.x hC.b dX2_lineOf_93 (lv_at hl 0 rfl) ?_
            refine lv_istore_n (lv' := [(3, .int v_37), (5, .int v_37), (0, .ref (G.2.1 18)), (1, .ref (G.2.1 (80 + cq))), (2, .int hr), (4, .int t)]) hC.x hC.b dX2_lineOf_95 rfl hl (by decide) rfl (fun ls hl => ?_)
            obtain ⟨x_41, ex_42⟩ : ∃ y : Int32, y = t + 1 := ⟨_, rfl⟩
            have pr_43 : x_41.toInt = t.toInt + (1) := by rw [ex_42]; exact addI rfl rfl (by omega) (by omega)
            refine lv_iinc (v := x_41) (lv' := [(4, .int x_41), (3, .int v_37), (5, .int v_37), (0, .ref (G.2.1 18)), (1, .ref (G.2.1 (80 + cq))), (2, .int hr)]) hC.x hC.b dX2_lineOf_96 hl (k := 5) rfl ex_42.symm (by decide) rfl (fun ls hl => ?_)
            refine lv_goto (tgt := 25) hC.x hC.b dX2_lineOf_99 (by decide) ?_
            exact ih_25 v_37 x_41 s1 t1 (by omega) hi0_25 _ _ _ hR hS (lv_sub hl [3, 4, 5, 1, 0] rfl)
          · skip
            refine lv_iload_n hC.x hC.b dX2_lineOf_69 rfl (lv_at hl 4 rfl) ?_
            refine lv_ldc hC.x hC.b hC.ow (hC.ts _ TK_X2_44) dX2_lineOf_70 ?_
            refine bi_eq (tgt := 93) (a := x3.toInt) (b := 2000000000) hC.x hC.b rfl rfl dX2_lineOf_72 (by decide) (fun c_44 => ?_) (fun c_44 => ?_)
            · skip
              refine lv_iload hC.x hC.b dX2_lineOf_93 (lv_at hl 0 rfl) ?_
              refine lv_istore_n (lv' := [(3, .int v_37), (5, .int v_37), (0, .ref (G.2.1 18)), (1, .ref (G.2.1 (80 + cq))), (2, .int hr), (4, .int t)]) hC.x hC.b dX2_lineOf_95 rfl hl (by decide) rfl (fun ls hl => ?_)
              obtain ⟨x_45, ex_46⟩ : ∃ y : Int32, y = t + 1 := ⟨_, rfl⟩
              have pr_47 : x_45.toInt = t.toInt + (1) := by rw [ex_46]; exact addI rfl rfl (by omega) (by omega)
              refine lv_iinc (v := x_45) (lv' := [(4, .int x_45), (3, .int v_37), (5, .int v_37), (0, .ref (G.2.1 18)), (1, .ref (G.2.1 (80 + cq))), (2, .int hr)]) hC.x hC.b dX2_lineOf_96 hl (k := 5) rfl ex_46.symm (by decide) rfl (fun ls hl => ?_)
              refine lv_goto (tgt := 25) hC.x hC.b dX2_lineOf_99 (by decide) ?_
              exact ih_25 v_37 x_45 s1 t1 (by omega) hi0_25 _ _ _ hR hS (lv_sub hl [3, 4, 5, 1, 0] rfl)
            · skip
              refine lv_aload_n hC.x hC.b dX2_lineOf_75 rfl (lv_at hl 1 rfl) ?_
              refine rget hC hK hR (ct_fore G _ _) rfl uin_X2 2 (by decide) TF_X2_18 rfl dX2_lineOf_76 ?_
              refine lv_iload hC.x hC.b dX2_lineOf_79 (lv_at hl 5 rfl) ?_
              refine lv_iload_n hC.x hC.b dX2_lineOf_81 rfl (lv_at hl 3 rfl) ?_
              refine lv_isub hC.x hC.b dX2_lineOf_82 ?_
              refine lv_i2l hC.x hC.b dX2_lineOf_83 rfl ?_
              refine lv_iload hC.x hC.b dX2_lineOf_84 (lv_at hl 0 rfl) ?_
              refine lv_i2l hC.x hC.b dX2_lineOf_86 rfl ?_
              refine lv_iload_n hC.x hC.b dX2_lineOf_87 rfl (lv_at hl 4 rfl) ?_
              refine lv_i2l hC.x hC.b dX2_lineOf_88 rfl ?_
              refine lv_lsub hC.x hC.b dX2_lineOf_89 ?_
              have av_48 : ((t - hr).toInt64).toInt = (t - hr).toInt := (i2lI rfl)
              refine gov (runV (As := [.long ((t - hr).toInt64), .long (v_37.toInt64 - x3.toInt64)]) (rest := []) hC hK hR hl.1 (c_X3_add l hG s1 t1 20 (by decide) ((t - hr).toInt64) (v_37.toInt64 - x3.toInt64) ) (call_b hC.ts TC_X3_add TN_X3 TM_X2_64 hd_X3_add ⟨Nat.le_of_ble_eq_true rfl, Nat.le_of_ble_eq_true rfl⟩) TI_X3_add TS_X3_add (ct_gains G _ _) rfl rfl rfl (Nat.le_of_ble_eq_true rfl) dX2_lineOf_90 ⟨Nat.le_of_ble_eq_true rfl, Nat.le_of_ble_eq_true rfl⟩) hS (fun s_51 t_52 H locs w_50 hR hS => ?_)
              try dsimp only [po_X3_add] at w_50
              have f_53 := w_50
              refine lv_iload hC.x hC.b dX2_lineOf_93 (lv_at hl 0 rfl) ?_
              refine lv_istore_n (lv' := [(3, .int v_37), (5, .int v_37), (0, .ref (G.2.1 18)), (1, .ref (G.2.1 (80 + cq))), (2, .int hr), (4, .int t)]) hC.x hC.b dX2_lineOf_95 rfl hl (by decide) rfl (fun ls hl => ?_)
              obtain ⟨x_54, ex_55⟩ : ∃ y : Int32, y = t + 1 := ⟨_, rfl⟩
              have pr_56 : x_54.toInt = t.toInt + (1) := by rw [ex_55]; exact addI rfl rfl (by omega) (by omega)
              refine lv_iinc (v := x_54) (lv' := [(4, .int x_54), (3, .int v_37), (5, .int v_37), (0, .ref (G.2.1 18)), (1, .ref (G.2.1 (80 + cq))), (2, .int hr)]) hC.x hC.b dX2_lineOf_96 hl (k := 5) rfl ex_55.symm (by decide) rfl (fun ls hl => ?_)
              refine lv_goto (tgt := 25) hC.x hC.b dX2_lineOf_99 (by decide) ?_
              exact ih_25 v_37 x_54 s_51 t_52 (by omega) (Fr.tr hi0_25 f_53) _ _ _ hR hS (lv_sub hl [3, 4, 5, 1, 0] rfl)
        · skip
          refine lv_aload_n hC.x hC.b dX2_lineOf_47 rfl (lv_at hl 1 rfl) ?_
          refine rget hC hK hR (ct_fore G _ _) rfl uin_X2 1 (by decide) TF_X2_12 rfl dX2_lineOf_48 ?_
          refine lv_iload hC.x hC.b dX2_lineOf_51 (lv_at hl 5 rfl) ?_
          refine lv_iload_n hC.x hC.b dX2_lineOf_53 rfl (lv_at hl 3 rfl) ?_
          refine lv_isub hC.x hC.b dX2_lineOf_54 ?_
          refine lv_i2l hC.x hC.b dX2_lineOf_55 rfl ?_
          refine lv_iload hC.x hC.b dX2_lineOf_56 (lv_at hl 0 rfl) ?_
          refine lv_i2l hC.x hC.b dX2_lineOf_58 rfl ?_
          have av_57 : ((t - hr).toInt64).toInt = (t - hr).toInt := (i2lI rfl)
          have av_58 : v_37.toInt64.toInt = v_37.toInt := (i2lI rfl)
          refine gov (runV (As := [.long ((t - hr).toInt64), .long v_37.toInt64]) (rest := []) hC hK hR hl.1 (c_X3_add l hG s1 t1 19 (by decide) ((t - hr).toInt64) v_37.toInt64 ) (call_b hC.ts TC_X3_add TN_X3 TM_X2_64 hd_X3_add ⟨Nat.le_of_ble_eq_true rfl, Nat.le_of_ble_eq_true rfl⟩) TI_X3_add TS_X3_add (ct_xs G _ _) rfl rfl rfl (Nat.le_of_ble_eq_true rfl) dX2_lineOf_59 ⟨Nat.le_of_ble_eq_true rfl, Nat.le_of_ble_eq_true rfl⟩) hS (fun s_61 t_62 H locs w_60 hR hS => ?_)
          try dsimp only [po_X3_add] at w_60
          have f_63 := w_60
          refine lv_iload hC.x hC.b dX2_lineOf_62 (lv_at hl 0 rfl) ?_
          refine lv_ldc hC.x hC.b hC.ow (hC.ts _ TK_X2_44) dX2_lineOf_64 ?_
          refine bi_eq (tgt := 93) (a := v_37.toInt) (b := 2000000000) hC.x hC.b rfl rfl dX2_lineOf_66 (by decide) (fun c_64 => ?_) (fun c_64 => ?_)
          · skip
            refine lv_iload hC.x hC.b dX2_lineOf_93 (lv_at hl 0 rfl) ?_
            refine lv_istore_n (lv' := [(3, .int v_37), (5, .int v_37), (0, .ref (G.2.1 18)), (1, .ref (G.2.1 (80 + cq))), (2, .int hr), (4, .int t)]) hC.x hC.b dX2_lineOf_95 rfl hl (by decide) rfl (fun ls hl => ?_)
            obtain ⟨x_65, ex_66⟩ : ∃ y : Int32, y = t + 1 := ⟨_, rfl⟩
            have pr_67 : x_65.toInt = t.toInt + (1) := by rw [ex_66]; exact addI rfl rfl (by omega) (by omega)
            refine lv_iinc (v := x_65) (lv' := [(4, .int x_65), (3, .int v_37), (5, .int v_37), (0, .ref (G.2.1 18)), (1, .ref (G.2.1 (80 + cq))), (2, .int hr)]) hC.x hC.b dX2_lineOf_96 hl (k := 5) rfl ex_66.symm (by decide) rfl (fun ls hl => ?_)
            refine lv_goto (tgt := 25) hC.x hC.b dX2_lineOf_99 (by decide) ?_
            exact ih_25 v_37 x_65 s_61 t_62 (by omega) (Fr.tr hi0_25 f_63) _ _ _ hR hS (lv_sub hl [3, 4, 5, 1, 0] rfl)
          · skip
            refine lv_iload_n hC.x hC.b dX2_lineOf_69 rfl (lv_at hl 4 rfl) ?_
            refine lv_ldc hC.x hC.b hC.ow (hC.ts _ TK_X2_44) dX2_lineOf_70 ?_
            refine bi_eq (tgt := 93) (a := x3.toInt) (b := 2000000000) hC.x hC.b rfl rfl dX2_lineOf_72 (by decide) (fun c_68 => ?_) (fun c_68 => ?_)
            · skip
              refine lv_iload hC.x hC.b dX2_lineOf_93 (lv_at hl 0 rfl) ?_
              refine lv_istore_n (lv' := [(3, .int v_37), (5, .int v_37), (0, .ref (G.2.1 18)), (1, .ref (G.2.1 (80 + cq))), (2, .int hr), (4, .int t)]) hC.x hC.b dX2_lineOf_95 rfl hl (by decide) rfl (fun ls hl => ?_)
              obtain ⟨x_69, ex_70⟩ : ∃ y : Int32, y = t + 1 := ⟨_, rfl⟩
              have pr_71 : x_69.toInt = t.toInt + (1) := by rw [ex_70]; exact addI rfl rfl (by omega) (by omega)
              refine lv_iinc (v := x_69) (lv' := [(4, .int x_69), (3, .int v_37), (5, .int v_37), (0, .ref (G.2.1 18)), (1, .ref (G.2.1 (80 + cq))), (2, .int hr)]) hC.x hC.b dX2_lineOf_96 hl (k := 5) rfl ex_70.symm (by decide) rfl (fun ls hl => ?_)
              refine lv_goto (tgt := 25) hC.x hC.b dX2_lineOf_99 (by decide) ?_
              exact ih_25 v_37 x_69 s_61 t_62 (by omega) (Fr.tr hi0_25 f_63) _ _ _ hR hS (lv_sub hl [3, 4, 5, 1, 0] rfl)
            · skip
              refine lv_aload_n hC.x hC.b dX2_lineOf_75 rfl (lv_at hl 1 rfl) ?_
              refine rget hC hK hR (ct_fore G _ _) rfl uin_X2 2 (by decide) TF_X2_18 rfl dX2_lineOf_76 ?_
              refine lv_iload hC.x hC.b dX2_lineOf_79 (lv_at hl 5 rfl) ?_
              refine lv_iload_n hC.x hC.b dX2_lineOf_81 rfl (lv_at hl 3 rfl) ?_
              refine lv_isub hC.x hC.b dX2_lineOf_82 ?_
              refine lv_i2l hC.x hC.b dX2_lineOf_83 rfl ?_
              refine lv_iload hC.x hC.b dX2_lineOf_84 (lv_at hl 0 rfl) ?_
              refine lv_i2l hC.x hC.b dX2_lineOf_86 rfl ?_
              refine lv_iload_n hC.x hC.b dX2_lineOf_87 rfl (lv_at hl 4 rfl) ?_
              refine lv_i2l hC.x hC.b dX2_lineOf_88 rfl ?_
              refine lv_lsub hC.x hC.b dX2_lineOf_89 ?_
              have av_72 : ((t - hr).toInt64).toInt = (t - hr).toInt := (i2lI rfl)
              refine gov (runV (As := [.long ((t - hr).toInt64), .long (v_37.toInt64 - x3.toInt64)]) (rest := []) hC hK hR hl.1 (c_X3_add l hG s_61 t_62 20 (by decide) ((t - hr).toInt64) (v_37.toInt64 - x3.toInt64) ) (call_b hC.ts TC_X3_add TN_X3 TM_X2_64 hd_X3_add ⟨Nat.le_of_ble_eq_true rfl, Nat.le_of_ble_eq_true rfl⟩) TI_X3_add TS_X3_add (ct_gains G _ _) rfl rfl rfl (Nat.le_of_ble_eq_true rfl) dX2_lineOf_90 ⟨Nat.le_of_ble_eq_true rfl, Nat.le_of_ble_eq_true rfl⟩) hS (fun s_75 t_76 H locs w_74 hR hS => ?_)
              try dsimp only [po_X3_add] at w_74
              have f_77 := w_74
              refine lv_iload hC.x hC.b dX2_lineOf_93 (lv_at hl 0 rfl) ?_
              refine lv_istore_n (lv' := [(3, .int v_37), (5, .int v_37), (0, .ref (G.2.1 18)), (1, .ref (G.2.1 (80 + cq))), (2, .int hr), (4, .int t)]) hC.x hC.b dX2_lineOf_95 rfl hl (by decide) rfl (fun ls hl => ?_)
              obtain ⟨x_78, ex_79⟩ : ∃ y : Int32, y = t + 1 := ⟨_, rfl⟩
              have pr_80 : x_78.toInt = t.toInt + (1) := by rw [ex_79]; exact addI rfl rfl (by omega) (by omega)
              refine lv_iinc (v := x_78) (lv' := [(4, .int x_78), (3, .int v_37), (5, .int v_37), (0, .ref (G.2.1 18)), (1, .ref (G.2.1 (80 + cq))), (2, .int hr)]) hC.x hC.b dX2_lineOf_96 hl (k := 5) rfl ex_79.symm (by decide) rfl (fun ls hl => ?_)
              refine lv_goto (tgt := 25) hC.x hC.b dX2_lineOf_99 (by decide) ?_
              exact ih_25 v_37 x_78 s_75 t_76 (by omega) (Fr.tr (Fr.tr hi0_25 f_63) f_77) _ _ _ hR hS (lv_sub hl [3, 4, 5, 1, 0] rfl)
  exact L_25 _ (2000000000 : Int32) x_12 s_8 t_9 (Nat.lt_succ_self _) (Fr.tr (Fr.tr Fr.rf f_5) f_10) _ _ _ hR hS (lv_sub hl [2, 3, 4, 1, 0] rfl)

abbrev po_X2_foretoldOf (σ : SI) (τ : SL) (cq : Nat) (hr : Int32) : Int32 → SI × SL → Prop := fun v u => ((Fr (fun k => 18 ≤ k ∧ k ≤ 20) σ u.1))
set_option maxRecDepth 100000 in
set_option maxHeartbeats 4000000 in
theorem c_X2_foretoldOf (l : Launch) {G : Gx} {A : Nat → Prop} (hG : GOk G A) (σ : SI) (τ : SL) (cq : Nat) (hcq : cq < 24) (hr : Int32) : MI l G A 3 yX2_foretoldOf cX2_foretoldOf 4 (some .int) [.ref (G.2.1 18), .ref (G.2.1 (80 + cq)), .int hr] (σ, τ) (po_X2_foretoldOf σ τ cq hr) := by
  refine met_of (own := RX2) (by decide +kernel) rfl [(0, .ref (G.2.1 18)), (1, .ref (G.2.1 (80 + cq))), (2, .int hr)] rfl (Nat.le_of_ble_eq_true rfl) ?_
  intro p e s m args below meth c ls hC hK hR hl
  have hS : va_S A s.heap s.heap [] := va_S.rf
  refine lv_aload_n hC.x hC.b dX2_foretoldOf_0 rfl (lv_at hl 0 rfl) ?_
  refine lv_aload_n hC.x hC.b dX2_foretoldOf_1 rfl (lv_at hl 1 rfl) ?_
  refine lv_iload_n hC.x hC.b dX2_foretoldOf_2 rfl (lv_at hl 2 rfl) ?_
  refine goq (runV (As := [.ref (G.2.1 (80 + cq)), .int hr]) (rest := []) hC hK hR hl.1 (c_X2_lineOf l hG σ τ cq hcq hr ) (call_b hC.ts TC_X2_lineOf TN_X2 TM_X2_75 hd_X2_lineOf ⟨Nat.le_of_ble_eq_true rfl, Nat.le_of_ble_eq_true rfl⟩) TI_X2_lineOf TS_X2_lineOf (ct_fore G _ _) rfl rfl rfl (Nat.le_of_ble_eq_true rfl) dX2_foretoldOf_3 ⟨Nat.le_of_ble_eq_true rfl, Nat.le_of_ble_eq_true rfl⟩) hS (fun v_1 s_3 t_4 H locs w_2 hR hS => ?_)
  try dsimp only [po_X2_lineOf] at w_2
  rcases w_2 with ⟨rfl, f_5⟩ | ⟨rfl, f_6⟩
  · skip
    refine lv_astore_n (lv' := [(3, .ref (G.2.1 19)), (0, .ref (G.2.1 18)), (1, .ref (G.2.1 (80 + cq))), (2, .int hr)]) hC.x hC.b dX2_foretoldOf_6 rfl hl (by decide) rfl (fun ls hl => ?_)
    refine lv_aload_n hC.x hC.b dX2_foretoldOf_7 rfl (lv_at hl 0 rfl) ?_
    refine goip (runV (As := []) (rest := []) hC hK hR hl.1 (c_X3_count l hG s_3 t_4 19 (by decide) ) (call_b hC.ts TC_X3_count TN_X3 TM_X2_71 hd_X3_count ⟨Nat.le_of_ble_eq_true rfl, Nat.le_of_ble_eq_true rfl⟩) TI_X3_count TS_X3_count (ct_xs G _ _) rfl rfl rfl (Nat.le_of_ble_eq_true rfl) dX2_foretoldOf_8 ⟨Nat.le_of_ble_eq_true rfl, Nat.le_of_ble_eq_true rfl⟩) hS (fun v_7 H locs w_8 hR hS => ?_)
    subst w_8
    refine bz_ne (tgt := 19) (a := (s_3 19 0).toInt) (b := 0) hC.x hC.b rfl rfl dX2_foretoldOf_11 (by decide) (fun c_9 => ?_) (fun c_9 => ?_)
    · skip
      refine lv_aload_n hC.x hC.b dX2_foretoldOf_19 rfl (lv_at hl 1 rfl) ?_
      refine rget hC hK hR (ct_fore G _ _) rfl uin_X2 3 (by decide) TF_X2_21 rfl dX2_foretoldOf_20 ?_
      refine lv_aload_n hC.x hC.b dX2_foretoldOf_23 rfl (lv_at hl 0 rfl) ?_
      refine golp (runV (As := []) (rest := [.long (t_4 18 3)]) hC hK hR hl.1 (c_X3_valueAtZero l hG s_3 t_4 19 (by decide) ) (call_b hC.ts TC_X3_valueAtZero TN_X3 TM_X2_79 hd_X3_valueAtZero ⟨Nat.le_of_ble_eq_true rfl, Nat.le_of_ble_eq_true rfl⟩) TI_X3_valueAtZero TS_X3_valueAtZero (ct_xs G _ _) rfl rfl rfl (Nat.le_of_ble_eq_true rfl) dX2_foretoldOf_24 ⟨Nat.le_of_ble_eq_true rfl, Nat.le_of_ble_eq_true rfl⟩) hS (fun v_10 H locs w_11 hR hS => ?_)
      refine lv_ladd hC.x hC.b dX2_foretoldOf_27 ?_
      refine lv_ldc hC.x hC.b hC.ow (hC.ts _ TK_X2_83) dX2_foretoldOf_28 ?_
      have av_12 : (1000000000 : Int32).toInt = 1000000000 := by decide
      refine goip (runSN (As := [.long ((t_4 18 3) + v_10), .int (1000000000 : Int32)]) (rest := []) hC hK hR hl.1 (c_X9_cut l hG s_3 t_4 ((t_4 18 3) + v_10) (1000000000 : Int32) (by first | decide | omega)) (call_n hC.ts TC_X9_cut TN_X9 hK.2.2.2.2.2.2.1 hd_X9_cut ⟨Nat.le_of_ble_eq_true rfl, Nat.le_of_ble_eq_true rfl⟩) TT_X9_cut rfl rfl (Nat.le_of_ble_eq_true rfl) dX2_foretoldOf_30 ⟨Nat.le_of_ble_eq_true rfl, Nat.le_of_ble_eq_true rfl⟩) hS (fun v_13 H locs w_14 hR hS => ?_)
      have f_15 := w_14
      exact reti hC hK hR hS (by exact (Fr.tr Fr.rf f_5)) dX2_foretoldOf_33
    · skip
      refine lv_ldc hC.x hC.b hC.ow (hC.ts _ TK_X2_44) dX2_foretoldOf_14 ?_
      refine lv_goto (tgt := 33) hC.x hC.b dX2_foretoldOf_16 (by decide) ?_
      exact reti hC hK hR hS (by exact (Fr.tr Fr.rf f_5)) dX2_foretoldOf_33
  · skip
    refine lv_astore_n (lv' := [(3, .ref (G.2.1 20)), (0, .ref (G.2.1 18)), (1, .ref (G.2.1 (80 + cq))), (2, .int hr)]) hC.x hC.b dX2_foretoldOf_6 rfl hl (by decide) rfl (fun ls hl => ?_)
    refine lv_aload_n hC.x hC.b dX2_foretoldOf_7 rfl (lv_at hl 0 rfl) ?_
    refine goip (runV (As := []) (rest := []) hC hK hR hl.1 (c_X3_count l hG s_3 t_4 20 (by decide) ) (call_b hC.ts TC_X3_count TN_X3 TM_X2_71 hd_X3_count ⟨Nat.le_of_ble_eq_true rfl, Nat.le_of_ble_eq_true rfl⟩) TI_X3_count TS_X3_count (ct_gains G _ _) rfl rfl rfl (Nat.le_of_ble_eq_true rfl) dX2_foretoldOf_8 ⟨Nat.le_of_ble_eq_true rfl, Nat.le_of_ble_eq_true rfl⟩) hS (fun v_16 H locs w_17 hR hS => ?_)
    subst w_17
    refine bz_ne (tgt := 19) (a := (s_3 20 0).toInt) (b := 0) hC.x hC.b rfl rfl dX2_foretoldOf_11 (by decide) (fun c_18 => ?_) (fun c_18 => ?_)
    · skip
      refine lv_aload_n hC.x hC.b dX2_foretoldOf_19 rfl (lv_at hl 1 rfl) ?_
      refine rget hC hK hR (ct_fore G _ _) rfl uin_X2 3 (by decide) TF_X2_21 rfl dX2_foretoldOf_20 ?_
      refine lv_aload_n hC.x hC.b dX2_foretoldOf_23 rfl (lv_at hl 0 rfl) ?_
      refine golp (runV (As := []) (rest := [.long (t_4 18 3)]) hC hK hR hl.1 (c_X3_valueAtZero l hG s_3 t_4 20 (by decide) ) (call_b hC.ts TC_X3_valueAtZero TN_X3 TM_X2_79 hd_X3_valueAtZero ⟨Nat.le_of_ble_eq_true rfl, Nat.le_of_ble_eq_true rfl⟩) TI_X3_valueAtZero TS_X3_valueAtZero (ct_gains G _ _) rfl rfl rfl (Nat.le_of_ble_eq_true rfl) dX2_foretoldOf_24 ⟨Nat.le_of_ble_eq_true rfl, Nat.le_of_ble_eq_true rfl⟩) hS (fun v_19 H locs w_20 hR hS => ?_)
      refine lv_ladd hC.x hC.b dX2_foretoldOf_27 ?_
      refine lv_ldc hC.x hC.b hC.ow (hC.ts _ TK_X2_83) dX2_foretoldOf_28 ?_
      have av_21 : (1000000000 : Int32).toInt = 1000000000 := by decide
      refine goip (runSN (As := [.long ((t_4 18 3) + v_19), .int (1000000000 : Int32)]) (rest := []) hC hK hR hl.1 (c_X9_cut l hG s_3 t_4 ((t_4 18 3) + v_19) (1000000000 : Int32) (by first | decide | omega)) (call_n hC.ts TC_X9_cut TN_X9 hK.2.2.2.2.2.2.1 hd_X9_cut ⟨Nat.le_of_ble_eq_true rfl, Nat.le_of_ble_eq_true rfl⟩) TT_X9_cut rfl rfl (Nat.le_of_ble_eq_true rfl) dX2_foretoldOf_30 ⟨Nat.le_of_ble_eq_true rfl, Nat.le_of_ble_eq_true rfl⟩) hS (fun v_22 H locs w_23 hR hS => ?_)
      have f_24 := w_23
      exact reti hC hK hR hS (by exact (Fr.tr Fr.rf f_6)) dX2_foretoldOf_33
    · skip
      refine lv_ldc hC.x hC.b hC.ow (hC.ts _ TK_X2_44) dX2_foretoldOf_14 ?_
      refine lv_goto (tgt := 33) hC.x hC.b dX2_foretoldOf_16 (by decide) ?_
      exact reti hC hK hR hS (by exact (Fr.tr Fr.rf f_6)) dX2_foretoldOf_33

abbrev po_X2_gatherMissed (σ : SI) (τ : SL) (cq : Nat) (hr : Int32) : SI × SL → Prop := fun u => ((Fr (fun k => 18 ≤ k ∧ k ≤ 20) σ u.1))
set_option maxRecDepth 100000 in
set_option maxHeartbeats 4000000 in
theorem c_X2_gatherMissed (l : Launch) {G : Gx} {A : Nat → Prop} (hG : GOk G A) (σ : SI) (τ : SL) (cq : Nat) (hcq : cq < 24) (hr : Int32) : MV l G A 1 yX2_gatherMissed cX2_gatherMissed 5 none [.ref (G.2.1 18), .ref (G.2.1 (80 + cq)), .int hr] (σ, τ) (po_X2_gatherMissed σ τ cq hr) := by
  refine met_of (own := RX2) (by decide +kernel) rfl [(0, .ref (G.2.1 18)), (1, .ref (G.2.1 (80 + cq))), (2, .int hr)] rfl (Nat.le_of_ble_eq_true rfl) ?_
  intro p e s m args below meth c ls hC hK hR hl
  have hS : va_S A s.heap s.heap [] := va_S.rf
  refine lv_aload_n hC.x hC.b dX2_gatherMissed_0 rfl (lv_at hl 0 rfl) ?_
  refine lv_iconst (v := 0) hC.x hC.b dX2_gatherMissed_1 (by decide) ?_
  refine rputi hC hK hG hR hS (ct_fore G _ _) rfl uin_X2 tyX2 tyX2_ok nmX2 4 (by decide) TF_X2_25 rfl (Or.inl rfl) (Nat.le_of_ble_eq_true rfl) rfl (ct_fore G _ _) dX2_gatherMissed_2 (fun s_2 es_1 H locs hR hS => ?_)
  refine lv_aload_n hC.x hC.b dX2_gatherMissed_5 rfl (lv_at hl 0 rfl) ?_
  refine lv_lconst (v := 0) hC.x hC.b dX2_gatherMissed_6 (by decide) ?_
  refine rputl hC hK hG hR hS (ct_fore G _ _) rfl uin_X2 tyX2 tyX2_ok nmX2 5 (by decide) TF_X2_29 rfl rfl (Nat.le_of_ble_eq_true rfl) rfl (ct_fore G _ _) dX2_gatherMissed_7 (fun t_4 es_3 H locs hR hS => ?_)
  refine lv_aload_n hC.x hC.b dX2_gatherMissed_10 rfl (lv_at hl 0 rfl) ?_
  refine lv_lconst (v := 0) hC.x hC.b dX2_gatherMissed_11 (by decide) ?_
  refine rputl hC hK hG hR hS (ct_fore G _ _) rfl uin_X2 tyX2 tyX2_ok nmX2 6 (by decide) TF_X2_32 rfl rfl (Nat.le_of_ble_eq_true rfl) rfl (ct_fore G _ _) dX2_gatherMissed_12 (fun t_6 es_5 H locs hR hS => ?_)
  refine lv_iload_n hC.x hC.b dX2_gatherMissed_15 rfl (lv_at hl 2 rfl) ?_
  refine lv_aload_n hC.x hC.b dX2_gatherMissed_16 rfl (lv_at hl 1 rfl) ?_
  refine rget hC hK hR (ct_clock hcq G _ _) rfl uin_X0 3 (by decide) TF_X2_104 rfl dX2_gatherMissed_17 ?_
  have rd_7 : (s_2 (80 + cq) 3).toInt = (σ (80 + cq) 3).toInt := congrArg Int32.toInt (show s_2 (80 + cq) 3 = σ (80 + cq) 3 from (by rw [es_1]; exact up2_o (by omega)))
  refine lv_isub hC.x hC.b dX2_gatherMissed_20 ?_
  refine lv_aload_n hC.x hC.b dX2_gatherMissed_21 rfl (lv_at hl 1 rfl) ?_
  refine rget hC hK hR (ct_clock hcq G _ _) rfl uin_X0 8 (by decide) TF_X2_39 rfl dX2_gatherMissed_22 ?_
  have rd_8 : (s_2 (80 + cq) 8).toInt = (σ (80 + cq) 8).toInt := congrArg Int32.toInt (show s_2 (80 + cq) 8 = σ (80 + cq) 8 from (by rw [es_1]; exact up2_o (by omega)))
  refine goip (runS (As := [.int (hr - (s_2 (80 + cq) 3)), .int (s_2 (80 + cq) 8)]) (rest := []) hC hK hR hl.1 (c_J9_max_7cf53 l hG s_2 t_6 (hr - (s_2 (80 + cq) 3)) (s_2 (80 + cq) 8) ) (call_b hC.ts TC_J9_max_7cf53 TN_J9 TM_X2_107 hd_J9_max_7cf53 ⟨Nat.le_of_ble_eq_true rfl, Nat.le_of_ble_eq_true rfl⟩) TT_J9_max_7cf53 rfl rfl (Nat.le_of_ble_eq_true rfl) dX2_gatherMissed_25 ⟨Nat.le_of_ble_eq_true rfl, Nat.le_of_ble_eq_true rfl⟩) hS (fun v_9 H locs w_10 hR hS => ?_)
  have f_11 := w_10
  refine lv_istore_n (lv' := [(3, .int v_9), (0, .ref (G.2.1 18)), (1, .ref (G.2.1 (80 + cq))), (2, .int hr)]) hC.x hC.b dX2_gatherMissed_28 rfl hl (by decide) rfl (fun ls hl => ?_)
  have L_29 : ∀ (F : Nat) (t : Int32) (s1 : SI) (t1 : SL), ((hr.toInt - t.toInt).toNat) < F → (Fr (fun k => 18 ≤ k ∧ k ≤ 20) σ s1) → ∀ (H : Heap) (locs : List Loc) (ls : Array Slot), RepH G s1 t1 H → va_S A s.heap H locs → lv_has ls 5 [(0, .ref (G.2.1 18)), (1, .ref (G.2.1 (80 + cq))), (2, .int hr), (3, .int t)] → W p l e (rmD 1) s m args below meth c H locs 0 0 (MQ below (va_Qv (po_X2_gatherMissed σ τ cq hr) (BU G) A) args s 0 0 A) (F0 m 29 ls []) := by
    intro F
    induction F with
    | zero => intro t s1 t1 hm; exact absurd hm (Nat.not_lt_zero _)
    | succ F ih_29 =>
      intro t s1 t1 hm_29 hi0_29 H locs ls hR hS hl
      have tlo := i32_lo t
      have hhi := i32_hi hr
      refine lv_iload_n hC.x hC.b dX2_gatherMissed_29 rfl (lv_at hl 3 rfl) ?_
      refine lv_iload_n hC.x hC.b dX2_gatherMissed_30 rfl (lv_at hl 2 rfl) ?_
      refine bi_ge (tgt := 103) (a := t.toInt) (b := hr.toInt) hC.x hC.b rfl rfl dX2_gatherMissed_31 (by decide) (fun c_12 => ?_) (fun c_12 => ?_)
      · skip
        exact retv hC hK hR hS (by exact hi0_29) dX2_gatherMissed_103
      · skip
        refine lv_aload_n hC.x hC.b dX2_gatherMissed_34 rfl (lv_at hl 0 rfl) ?_
        refine rget hC hK hR (ct_fore G _ _) rfl uin_X2 0 (by decide) TF_X2_35 rfl dX2_gatherMissed_35 ?_
        refine lv_iconst (v := 2) hC.x hC.b dX2_gatherMissed_38 (by decide) ?_
        refine lv_iload_n hC.x hC.b dX2_gatherMissed_39 rfl (lv_at hl 3 rfl) ?_
        refine lv_aload_n hC.x hC.b dX2_gatherMissed_40 rfl (lv_at hl 1 rfl) ?_
        refine rget hC hK hR (ct_clock hcq G _ _) rfl uin_X0 0 (by decide) TF_X2_45 rfl dX2_gatherMissed_41 ?_
        have av_13 : (2 : Int32).toInt = 2 := by decide
        have av_14 : (nI cq).toInt = ((cq : Nat) : Int) := (nI_T _ (by omega))
        refine goip (runV (As := [.int (2 : Int32), .int t, .int (nI cq)]) (rest := []) hC hK hR hl.1 (c_X7_ofClock l hG s1 t1 (2 : Int32) t (nI cq) ) (call_b hC.ts TC_X7_ofClock TN_X7 TM_X2_48 hd_X7_ofClock ⟨Nat.le_of_ble_eq_true rfl, Nat.le_of_ble_eq_true rfl⟩) TI_X7_ofClock TS_X7_ofClock (ct_told G _ _) rfl rfl rfl (Nat.le_of_ble_eq_true rfl) dX2_gatherMissed_44 ⟨Nat.le_of_ble_eq_true rfl, Nat.le_of_ble_eq_true rfl⟩) hS (fun v_15 H locs w_16 hR hS => ?_)
        refine lv_istore (lv' := [(4, .int v_15), (0, .ref (G.2.1 18)), (1, .ref (G.2.1 (80 + cq))), (2, .int hr), (3, .int t)]) hC.x hC.b dX2_gatherMissed_47 hl (by decide) rfl (fun ls hl => ?_)
        refine lv_iload hC.x hC.b dX2_gatherMissed_49 (lv_at hl 0 rfl) ?_
        refine lv_ldc hC.x hC.b hC.ow (hC.ts _ TK_X2_44) dX2_gatherMissed_51 ?_
        refine bi_eq (tgt := 97) (a := v_15.toInt) (b := 2000000000) hC.x hC.b rfl rfl dX2_gatherMissed_53 (by decide) (fun c_17 => ?_) (fun c_17 => ?_)
        · skip
          obtain ⟨x_18, ex_19⟩ : ∃ y : Int32, y = t + 1 := ⟨_, rfl⟩
          have pr_20 : x_18.toInt = t.toInt + (1) := by rw [ex_19]; exact addI rfl rfl (by omega) (by omega)
          refine lv_iinc (v := x_18) (lv' := [(3, .int x_18), (4, .int v_15), (0, .ref (G.2.1 18)), (1, .ref (G.2.1 (80 + cq))), (2, .int hr)]) hC.x hC.b dX2_gatherMissed_97 hl (k := 4) rfl ex_19.symm (by decide) rfl (fun ls hl => ?_)
          refine lv_goto (tgt := 29) hC.x hC.b dX2_gatherMissed_100 (by decide) ?_
          exact ih_29 x_18 s1 t1 (by omega) hi0_29 _ _ _ hR hS (lv_sub hl [2, 3, 4, 0] rfl)
        · skip
          refine lv_aload_n hC.x hC.b dX2_gatherMissed_56 rfl (lv_at hl 1 rfl) ?_
          refine lv_dup hC.x hC.b dX2_gatherMissed_57 rfl ?_
          refine rget hC hK hR (ct_fore G _ _) rfl uin_X2 4 (by decide) TF_X2_25 rfl dX2_gatherMissed_58 ?_
          refine lv_iconst (v := 1) hC.x hC.b dX2_gatherMissed_61 (by decide) ?_
          refine lv_iadd hC.x hC.b dX2_gatherMissed_62 ?_
          refine rputi hC hK hG hR hS (ct_fore G _ _) rfl uin_X2 tyX2 tyX2_ok nmX2 4 (by decide) TF_X2_25 rfl (Or.inl rfl) (Nat.le_of_ble_eq_true rfl) rfl (ct_fore G _ _) dX2_gatherMissed_63 (fun s_22 es_21 H locs hR hS => ?_)
          refine lv_aload_n hC.x hC.b dX2_gatherMissed_66 rfl (lv_at hl 1 rfl) ?_
          refine lv_dup hC.x hC.b dX2_gatherMissed_67 rfl ?_
          refine rget hC hK hR (ct_fore G _ _) rfl uin_X2 5 (by decide) TF_X2_29 rfl dX2_gatherMissed_68 ?_
          refine lv_iload hC.x hC.b dX2_gatherMissed_71 (lv_at hl 0 rfl) ?_
          refine goip (runS (As := [.int v_15]) (rest := [.long (t1 18 5), .ref (G.2.1 18)]) hC hK hR hl.1 (c_J9_abs_0f7a4 l hG s_22 t1 v_15 ) (call_b hC.ts TC_J9_abs_0f7a4 TN_J9 TM_X2_110 hd_J9_abs_0f7a4 ⟨Nat.le_of_ble_eq_true rfl, Nat.le_of_ble_eq_true rfl⟩) TT_J9_abs_0f7a4 rfl rfl (Nat.le_of_ble_eq_true rfl) dX2_gatherMissed_73 ⟨Nat.le_of_ble_eq_true rfl, Nat.le_of_ble_eq_true rfl⟩) hS (fun v_23 H locs w_24 hR hS => ?_)
          have f_25 := w_24
          refine lv_i2l hC.x hC.b dX2_gatherMissed_76 rfl ?_
          refine lv_ladd hC.x hC.b dX2_gatherMissed_77 ?_
          refine rputl hC hK hG hR hS (ct_fore G _ _) rfl uin_X2 tyX2 tyX2_ok nmX2 5 (by decide) TF_X2_29 rfl rfl (Nat.le_of_ble_eq_true rfl) rfl (ct_fore G _ _) dX2_gatherMissed_78 (fun t_27 es_26 H locs hR hS => ?_)
          refine lv_aload_n hC.x hC.b dX2_gatherMissed_81 rfl (lv_at hl 1 rfl) ?_
          refine lv_dup hC.x hC.b dX2_gatherMissed_82 rfl ?_
          refine rget hC hK hR (ct_fore G _ _) rfl uin_X2 6 (by decide) TF_X2_32 rfl dX2_gatherMissed_83 ?_
          refine lv_iload hC.x hC.b dX2_gatherMissed_86 (lv_at hl 0 rfl) ?_
          refine lv_i2l hC.x hC.b dX2_gatherMissed_88 rfl ?_
          refine lv_iload hC.x hC.b dX2_gatherMissed_89 (lv_at hl 0 rfl) ?_
          refine lv_i2l hC.x hC.b dX2_gatherMissed_91 rfl ?_
          refine lv_lmul hC.x hC.b dX2_gatherMissed_92 ?_
          refine lv_ladd hC.x hC.b dX2_gatherMissed_93 ?_
          refine rputl hC hK hG hR hS (ct_fore G _ _) rfl uin_X2 tyX2 tyX2_ok nmX2 6 (by decide) TF_X2_32 rfl rfl (Nat.le_of_ble_eq_true rfl) rfl (ct_fore G _ _) dX2_gatherMissed_94 (fun t_29 es_28 H locs hR hS => ?_)
          obtain ⟨x_30, ex_31⟩ : ∃ y : Int32, y = t + 1 := ⟨_, rfl⟩
          have pr_32 : x_30.toInt = t.toInt + (1) := by rw [ex_31]; exact addI rfl rfl (by omega) (by omega)
          refine lv_iinc (v := x_30) (lv' := [(3, .int x_30), (4, .int v_15), (0, .ref (G.2.1 18)), (1, .ref (G.2.1 (80 + cq))), (2, .int hr)]) hC.x hC.b dX2_gatherMissed_97 hl (k := 4) rfl ex_31.symm (by decide) rfl (fun ls hl => ?_)
          refine lv_goto (tgt := 29) hC.x hC.b dX2_gatherMissed_100 (by decide) ?_
          exact ih_29 x_30 s_22 t_29 (by omega) (by rw [es_21]; exact Fr.up (hi0_29) (by first | omega | (dsimp only; omega))) _ _ _ hR hS (lv_sub hl [2, 3, 4, 0] rfl)
  exact L_29 _ v_9 s_2 t_6 (Nat.lt_succ_self _) (by rw [es_1]; exact Fr.up (Fr.rf) (by first | omega | (dsimp only; omega))) _ _ _ hR hS (lv_sub hl [1, 2, 3, 0] rfl)

abbrev po_X2_fullWeightOf (σ : SI) (τ : SL) (cq : Nat) (hr : Int32) (fa : Int32) : Int32 → SI × SL → Prop := fun v u => ((Fr (fun k => 18 ≤ k ∧ k ≤ 20) σ u.1))
set_option maxRecDepth 100000 in
set_option maxHeartbeats 4000000 in
theorem c_X2_fullWeightOf (l : Launch) {G : Gx} {A : Nat → Prop} (hG : GOk G A) (σ : SI) (τ : SL) (cq : Nat) (hcq : cq < 24) (hr : Int32) (fa : Int32) : MI l G A 2 yX2_fullWeightOf cX2_fullWeightOf 6 (some .int) [.ref (G.2.1 18), .ref (G.2.1 (80 + cq)), .int hr, .int fa] (σ, τ) (po_X2_fullWeightOf σ τ cq hr fa) := by
  refine met_of (own := RX2) (by decide +kernel) rfl [(0, .ref (G.2.1 18)), (1, .ref (G.2.1 (80 + cq))), (2, .int hr), (3, .int fa)] rfl (Nat.le_of_ble_eq_true rfl) ?_
  intro p e s m args below meth c ls hC hK hR hl
  have hS : va_S A s.heap s.heap [] := va_S.rf
  refine lv_iload_n hC.x hC.b dX2_fullWeightOf_0 rfl (lv_at hl 3 rfl) ?_
  refine lv_ldc hC.x hC.b hC.ow (hC.ts _ TK_X2_44) dX2_fullWeightOf_1 ?_
  refine bi_eq (tgt := 13) (a := fa.toInt) (b := 2000000000) hC.x hC.b rfl rfl dX2_fullWeightOf_3 (by decide) (fun c_1 => ?_) (fun c_1 => ?_)
  · skip
    refine lv_iconst (v := 0) hC.x hC.b dX2_fullWeightOf_13 (by decide) ?_
    exact reti hC hK hR hS (by exact Fr.rf) dX2_fullWeightOf_14
  · skip
    refine lv_aload_n hC.x hC.b dX2_fullWeightOf_6 rfl (lv_at hl 1 rfl) ?_
    refine rget hC hK hR (ct_clock hcq G _ _) rfl uin_X0 7 (by decide) TF_X2_88 rfl dX2_fullWeightOf_7 ?_
    refine bz_eq (tgt := 15) (a := (σ (80 + cq) 7).toInt) (b := 0) hC.x hC.b rfl rfl dX2_fullWeightOf_10 (by decide) (fun c_2 => ?_) (fun c_2 => ?_)
    · skip
      refine lv_aload_n hC.x hC.b dX2_fullWeightOf_15 rfl (lv_at hl 0 rfl) ?_
      refine lv_aload_n hC.x hC.b dX2_fullWeightOf_16 rfl (lv_at hl 1 rfl) ?_
      refine lv_iload_n hC.x hC.b dX2_fullWeightOf_17 rfl (lv_at hl 2 rfl) ?_
      refine gov (runV (As := [.ref (G.2.1 (80 + cq)), .int hr]) (rest := []) hC hK hR hl.1 (c_X2_gatherMissed l hG σ τ cq hcq hr ) (call_b hC.ts TC_X2_gatherMissed TN_X2 TM_X2_92 hd_X2_gatherMissed ⟨Nat.le_of_ble_eq_true rfl, Nat.le_of_ble_eq_true rfl⟩) TI_X2_gatherMissed TS_X2_gatherMissed (ct_fore G _ _) rfl rfl rfl (Nat.le_of_ble_eq_true rfl) dX2_fullWeightOf_18 ⟨Nat.le_of_ble_eq_true rfl, Nat.le_of_ble_eq_true rfl⟩) hS (fun s_5 t_6 H locs w_4 hR hS => ?_)
      try dsimp only [po_X2_gatherMissed] at w_4
      have f_7 := w_4
      refine lv_aload_n hC.x hC.b dX2_fullWeightOf_21 rfl (lv_at hl 0 rfl) ?_
      refine rget hC hK hR (ct_fore G _ _) rfl uin_X2 4 (by decide) TF_X2_25 rfl dX2_fullWeightOf_22 ?_
      refine bz_ne (tgt := 30) (a := (s_5 18 4).toInt) (b := 0) hC.x hC.b rfl rfl dX2_fullWeightOf_25 (by decide) (fun c_8 => ?_) (fun c_8 => ?_)
      · skip
        refine lv_lconst (v := 1) hC.x hC.b dX2_fullWeightOf_30 (by decide) ?_
        refine lv_aload_n hC.x hC.b dX2_fullWeightOf_31 rfl (lv_at hl 0 rfl) ?_
        refine rget hC hK hR (ct_fore G _ _) rfl uin_X2 6 (by decide) TF_X2_32 rfl dX2_fullWeightOf_32 ?_
        refine lv_ladd hC.x hC.b dX2_fullWeightOf_35 ?_
        refine lv_topl (fun x_9 ex_10 => ?_)
        refine lv_lstore (lv' := [(4, .long x_9), (0, .ref (G.2.1 18)), (1, .ref (G.2.1 (80 + cq))), (2, .int hr), (3, .int fa)]) hC.x hC.b dX2_fullWeightOf_36 hl (by decide) rfl (fun ls hl => ?_)
        refine lv_lload hC.x hC.b dX2_fullWeightOf_38 (lv_at hl 0 rfl) ?_
        refine lv_lconst (v := 0) hC.x hC.b dX2_fullWeightOf_40 (by decide) ?_
        refine bl_le (tgt := 59) (a := x_9.toInt) (b := 0) hC.x hC.b rfl rfl dX2_fullWeightOf_41 dX2_fullWeightOf_42 (by decide) (fun c_11 => ?_) (fun c_11 => ?_)
        · skip
          refine lv_iconst (v := 1) hC.x hC.b dX2_fullWeightOf_59 (by decide) ?_
          exact reti hC hK hR hS (by exact (Fr.tr Fr.rf f_7)) dX2_fullWeightOf_60
        · skip
          refine lv_lconst (v := 1) hC.x hC.b dX2_fullWeightOf_45 (by decide) ?_
          refine lv_ldc2 hC.x hC.b hC.ow (hC.ts _ TK_X2_96) dX2_fullWeightOf_46 ?_
          refine lv_lload hC.x hC.b dX2_fullWeightOf_49 (lv_at hl 0 rfl) ?_
          refine lv_ldiv hC.x hC.b dX2_fullWeightOf_51 (ne0L rfl (by omega)) ?_
          have av_12 : (1 : Int64).toInt = 1 := by decide
          refine golp (runS (As := [.long (1 : Int64), .long ((1000000 : Int64) / x_9)]) (rest := []) hC hK hR hl.1 (c_J9_max_f86c9 l hG s_5 t_6 (1 : Int64) ((1000000 : Int64) / x_9) ) (call_b hC.ts TC_J9_max_f86c9 TN_J9 TM_X2_98 hd_J9_max_f86c9 ⟨Nat.le_of_ble_eq_true rfl, Nat.le_of_ble_eq_true rfl⟩) TT_J9_max_f86c9 rfl rfl (Nat.le_of_ble_eq_true rfl) dX2_fullWeightOf_52 ⟨Nat.le_of_ble_eq_true rfl, Nat.le_of_ble_eq_true rfl⟩) hS (fun v_13 H locs w_14 hR hS => ?_)
          have f_15 := w_14
          refine lv_l2i hC.x hC.b dX2_fullWeightOf_55 rfl ?_
          refine lv_goto (tgt := 60) hC.x hC.b dX2_fullWeightOf_56 (by decide) ?_
          exact reti hC hK hR hS (by exact (Fr.tr Fr.rf f_7)) dX2_fullWeightOf_60
      · skip
        refine lv_iconst (v := 1) hC.x hC.b dX2_fullWeightOf_28 (by decide) ?_
        exact reti hC hK hR hS (by exact (Fr.tr Fr.rf f_7)) dX2_fullWeightOf_29
    · skip
      refine lv_iconst (v := 0) hC.x hC.b dX2_fullWeightOf_13 (by decide) ?_
      exact reti hC hK hR hS (by exact Fr.rf) dX2_fullWeightOf_14

abbrev po_X2_usuallyMissedBy (σ : SI) (τ : SL) (cq : Nat) (hr : Int32) : Int64 → SI × SL → Prop := fun v u => ((Fr (fun k => 18 ≤ k ∧ k ≤ 20) σ u.1))
set_option maxRecDepth 100000 in
set_option maxHeartbeats 4000000 in
theorem c_X2_usuallyMissedBy (l : Launch) {G : Gx} {A : Nat → Prop} (hG : GOk G A) (σ : SI) (τ : SL) (cq : Nat) (hcq : cq < 24) (hr : Int32) : ML l G A 2 yX2_usuallyMissedBy cX2_usuallyMissedBy 3 (some .long) [.ref (G.2.1 18), .ref (G.2.1 (80 + cq)), .int hr] (σ, τ) (po_X2_usuallyMissedBy σ τ cq hr) := by
  refine met_of (own := RX2) (by decide +kernel) rfl [(0, .ref (G.2.1 18)), (1, .ref (G.2.1 (80 + cq))), (2, .int hr)] rfl (Nat.le_of_ble_eq_true rfl) ?_
  intro p e s m args below meth c ls hC hK hR hl
  have hS : va_S A s.heap s.heap [] := va_S.rf
  refine lv_aload_n hC.x hC.b dX2_usuallyMissedBy_0 rfl (lv_at hl 0 rfl) ?_
  refine lv_aload_n hC.x hC.b dX2_usuallyMissedBy_1 rfl (lv_at hl 1 rfl) ?_
  refine lv_iload_n hC.x hC.b dX2_usuallyMissedBy_2 rfl (lv_at hl 2 rfl) ?_
  refine gov (runV (As := [.ref (G.2.1 (80 + cq)), .int hr]) (rest := []) hC hK hR hl.1 (c_X2_gatherMissed l hG σ τ cq hcq hr ) (call_b hC.ts TC_X2_gatherMissed TN_X2 TM_X2_92 hd_X2_gatherMissed ⟨Nat.le_of_ble_eq_true rfl, Nat.le_of_ble_eq_true rfl⟩) TI_X2_gatherMissed TS_X2_gatherMissed (ct_fore G _ _) rfl rfl rfl (Nat.le_of_ble_eq_true rfl) dX2_usuallyMissedBy_3 ⟨Nat.le_of_ble_eq_true rfl, Nat.le_of_ble_eq_true rfl⟩) hS (fun s_3 t_4 H locs w_2 hR hS => ?_)
  try dsimp only [po_X2_gatherMissed] at w_2
  have f_5 := w_2
  refine lv_aload_n hC.x hC.b dX2_usuallyMissedBy_6 rfl (lv_at hl 0 rfl) ?_
  refine rget hC hK hR (ct_fore G _ _) rfl uin_X2 4 (by decide) TF_X2_25 rfl dX2_usuallyMissedBy_7 ?_
  refine bz_le (tgt := 26) (a := (s_3 18 4).toInt) (b := 0) hC.x hC.b rfl rfl dX2_usuallyMissedBy_10 (by decide) (fun c_6 => ?_) (fun c_6 => ?_)
  · skip
    refine lv_lconst (v := 0) hC.x hC.b dX2_usuallyMissedBy_26 (by decide) ?_
    exact retl hC hK hR hS (by exact (Fr.tr Fr.rf f_5)) dX2_usuallyMissedBy_27
  · skip
    refine lv_aload_n hC.x hC.b dX2_usuallyMissedBy_13 rfl (lv_at hl 0 rfl) ?_
    refine rget hC hK hR (ct_fore G _ _) rfl uin_X2 5 (by decide) TF_X2_29 rfl dX2_usuallyMissedBy_14 ?_
    refine lv_aload_n hC.x hC.b dX2_usuallyMissedBy_17 rfl (lv_at hl 0 rfl) ?_
    refine rget hC hK hR (ct_fore G _ _) rfl uin_X2 4 (by decide) TF_X2_25 rfl dX2_usuallyMissedBy_18 ?_
    refine lv_i2l hC.x hC.b dX2_usuallyMissedBy_21 rfl ?_
    refine lv_ldiv hC.x hC.b dX2_usuallyMissedBy_22 (ne0L (i2lI rfl) (by omega)) ?_
    refine lv_goto (tgt := 27) hC.x hC.b dX2_usuallyMissedBy_23 (by decide) ?_
    exact retl hC hK hR hS (by exact (Fr.tr Fr.rf f_5)) dX2_usuallyMissedBy_27

abbrev po_X2_haveOneSign (σ : SI) (τ : SL) (xa : Int32) (ya : Int32) : Int32 → SI × SL → Prop := fun v u => u = (σ, τ) ∧ (((v = (1))) ∨ ((v = (0))))
set_option maxRecDepth 100000 in
set_option maxHeartbeats 4000000 in
theorem c_X2_haveOneSign (l : Launch) {G : Gx} {A : Nat → Prop} (hG : GOk G A) (σ : SI) (τ : SL) (xa : Int32) (ya : Int32) : MI l G A 0 yX2_haveOneSign cX2_haveOneSign 2 (some .boolean) [.int xa, .int ya] (σ, τ) (po_X2_haveOneSign σ τ xa ya) := by
  refine met_of (own := RX2) (by decide +kernel) rfl [(0, .int xa), (1, .int ya)] rfl (Nat.le_of_ble_eq_true rfl) ?_
  intro p e s m args below meth c ls hC hK hR hl
  have hS : va_S A s.heap s.heap [] := va_S.rf
  refine lv_iload_n hC.x hC.b dX2_haveOneSign_0 rfl (lv_at hl 0 rfl) ?_
  refine bz_le (tgt := 8) (a := xa.toInt) (b := 0) hC.x hC.b rfl rfl dX2_haveOneSign_1 (by decide) (fun c_1 => ?_) (fun c_1 => ?_)
  · skip
    refine lv_iload_n hC.x hC.b dX2_haveOneSign_8 rfl (lv_at hl 0 rfl) ?_
    refine bz_ge (tgt := 20) (a := xa.toInt) (b := 0) hC.x hC.b rfl rfl dX2_haveOneSign_9 (by decide) (fun c_2 => ?_) (fun c_2 => ?_)
    · skip
      refine lv_iconst (v := 0) hC.x hC.b dX2_haveOneSign_20 (by decide) ?_
      exact retz hC hK hR hS (Or.inl rfl) ⟨rfl, (by first | exact Or.inr ((by first | rfl | omega)) | exact False.elim (by omega))⟩ dX2_haveOneSign_21
    · skip
      refine lv_iload_n hC.x hC.b dX2_haveOneSign_12 rfl (lv_at hl 1 rfl) ?_
      refine bz_ge (tgt := 20) (a := ya.toInt) (b := 0) hC.x hC.b rfl rfl dX2_haveOneSign_13 (by decide) (fun c_3 => ?_) (fun c_3 => ?_)
      · skip
        refine lv_iconst (v := 0) hC.x hC.b dX2_haveOneSign_20 (by decide) ?_
        exact retz hC hK hR hS (Or.inl rfl) ⟨rfl, (by first | exact Or.inr ((by first | rfl | omega)) | exact False.elim (by omega))⟩ dX2_haveOneSign_21
      · skip
        refine lv_iconst (v := 1) hC.x hC.b dX2_haveOneSign_16 (by decide) ?_
        refine lv_goto (tgt := 21) hC.x hC.b dX2_haveOneSign_17 (by decide) ?_
        exact retz hC hK hR hS (Or.inr rfl) ⟨rfl, (by first | exact Or.inl (by first | rfl | omega) | exact False.elim (by omega))⟩ dX2_haveOneSign_21
  · skip
    refine lv_iload_n hC.x hC.b dX2_haveOneSign_4 rfl (lv_at hl 1 rfl) ?_
    refine bz_gt (tgt := 16) (a := ya.toInt) (b := 0) hC.x hC.b rfl rfl dX2_haveOneSign_5 (by decide) (fun c_4 => ?_) (fun c_4 => ?_)
    · skip
      refine lv_iconst (v := 1) hC.x hC.b dX2_haveOneSign_16 (by decide) ?_
      refine lv_goto (tgt := 21) hC.x hC.b dX2_haveOneSign_17 (by decide) ?_
      exact retz hC hK hR hS (Or.inr rfl) ⟨rfl, (by first | exact Or.inl (by first | rfl | omega) | exact False.elim (by omega))⟩ dX2_haveOneSign_21
    · skip
      refine lv_iload_n hC.x hC.b dX2_haveOneSign_8 rfl (lv_at hl 0 rfl) ?_
      refine bz_ge (tgt := 20) (a := xa.toInt) (b := 0) hC.x hC.b rfl rfl dX2_haveOneSign_9 (by decide) (fun c_5 => ?_) (fun c_5 => ?_)
      · skip
        refine lv_iconst (v := 0) hC.x hC.b dX2_haveOneSign_20 (by decide) ?_
        exact retz hC hK hR hS (Or.inl rfl) ⟨rfl, (by first | exact Or.inr ((by first | rfl | omega)) | exact False.elim (by omega))⟩ dX2_haveOneSign_21
      · skip
        refine lv_iload_n hC.x hC.b dX2_haveOneSign_12 rfl (lv_at hl 1 rfl) ?_
        refine bz_ge (tgt := 20) (a := ya.toInt) (b := 0) hC.x hC.b rfl rfl dX2_haveOneSign_13 (by decide) (fun c_6 => ?_) (fun c_6 => ?_)
        · skip
          refine lv_iconst (v := 0) hC.x hC.b dX2_haveOneSign_20 (by decide) ?_
          exact retz hC hK hR hS (Or.inl rfl) ⟨rfl, (by first | exact Or.inr ((by first | rfl | omega)) | exact False.elim (by omega))⟩ dX2_haveOneSign_21
        · skip
          refine lv_iconst (v := 1) hC.x hC.b dX2_haveOneSign_16 (by decide) ?_
          refine lv_goto (tgt := 21) hC.x hC.b dX2_haveOneSign_17 (by decide) ?_
          exact retz hC hK hR hS (Or.inr rfl) ⟨rfl, (by first | exact Or.inl (by first | rfl | omega) | exact False.elim (by omega))⟩ dX2_haveOneSign_21

abbrev po_X2_drifts (σ : SI) (τ : SL) (cq : Nat) (hr : Int32) : Int32 → SI × SL → Prop := fun v u => u = (σ, τ) ∧ (((v = (1))) ∨ ((v = (0))))
set_option maxRecDepth 100000 in
set_option maxHeartbeats 4000000 in
theorem c_X2_drifts (l : Launch) {G : Gx} {A : Nat → Prop} (hG : GOk G A) (σ : SI) (τ : SL) (cq : Nat) (hcq : cq < 24) (hr : Int32) (hhr : 0 ≤ hr.toInt ∧ hr.toInt ≤ 200) : MI l G A 2 yX2_drifts cX2_drifts 6 (some .boolean) [.ref (G.2.1 18), .ref (G.2.1 (80 + cq)), .int hr] (σ, τ) (po_X2_drifts σ τ cq hr) := by
  refine met_of (own := RX2) (by decide +kernel) rfl [(0, .ref (G.2.1 18)), (1, .ref (G.2.1 (80 + cq))), (2, .int hr)] rfl (Nat.le_of_ble_eq_true rfl) ?_
  intro p e s m args below meth c ls hC hK hR hl
  have hS : va_S A s.heap s.heap [] := va_S.rf
  refine lv_iload_n hC.x hC.b dX2_drifts_0 rfl (lv_at hl 2 rfl) ?_
  refine lv_iconst (v := 2) hC.x hC.b dX2_drifts_1 (by decide) ?_
  refine lv_isub hC.x hC.b dX2_drifts_2 ?_
  have pr_1 : (hr - (2 : Int32)).toInt = (hr.toInt - 2) := subI rfl rfl (by omega) (by omega)
  refine lv_istore_n (lv' := [(3, .int (hr - (2 : Int32))), (0, .ref (G.2.1 18)), (1, .ref (G.2.1 (80 + cq))), (2, .int hr)]) hC.x hC.b dX2_drifts_3 rfl hl (by decide) rfl (fun ls hl => ?_)
  have L_4 : ∀ (F : Nat) (t : Int32), ((hr.toInt + 1 - t.toInt).toNat) < F → (hr.toInt - 2 ≤ t.toInt) → (t.toInt ≤ hr.toInt + 1) → ∀ (H : Heap) (locs : List Loc) (ls : Array Slot), RepH G σ τ H → va_S A s.heap H locs → lv_has ls 6 [(0, .ref (G.2.1 18)), (1, .ref (G.2.1 (80 + cq))), (2, .int hr), (3, .int t)] → W p l e (rmD 2) s m args below meth c H locs 0 0 (MQ below (va_Qi (po_X2_drifts σ τ cq hr) (BU G) A) args s 0 0 A) (F0 m 4 ls []) := by
    intro F
    induction F with
    | zero => intro t hm; exact absurd hm (Nat.not_lt_zero _)
    | succ F ih_4 =>
      intro t hm_4 hi0_4 hi1_4 H locs ls hR hS hl
      refine lv_iload_n hC.x hC.b dX2_drifts_4 rfl (lv_at hl 3 rfl) ?_
      refine lv_iload_n hC.x hC.b dX2_drifts_5 rfl (lv_at hl 2 rfl) ?_
      refine bi_gt (tgt := 72) (a := t.toInt) (b := hr.toInt) hC.x hC.b rfl rfl dX2_drifts_6 (by decide) (fun c_2 => ?_) (fun c_2 => ?_)
      · skip
        refine lv_iconst (v := 1) hC.x hC.b dX2_drifts_72 (by decide) ?_
        exact retz hC hK hR hS (Or.inr rfl) ⟨rfl, (by first | exact Or.inl (by first | rfl | omega) | exact False.elim (by omega))⟩ dX2_drifts_73
      · skip
        refine lv_aload_n hC.x hC.b dX2_drifts_9 rfl (lv_at hl 0 rfl) ?_
        refine lv_aload_n hC.x hC.b dX2_drifts_10 rfl (lv_at hl 1 rfl) ?_
        refine lv_iload_n hC.x hC.b dX2_drifts_11 rfl (lv_at hl 3 rfl) ?_
        refine lv_iconst (v := 1) hC.x hC.b dX2_drifts_12 (by decide) ?_
        refine lv_isub hC.x hC.b dX2_drifts_13 ?_
        refine goip (runV (As := [.ref (G.2.1 (80 + cq)), .int (t - (1 : Int32))]) (rest := []) hC hK hR hl.1 (c_X2_missedOf l hG σ τ cq hcq (t - (1 : Int32)) ) (call_b hC.ts TC_X2_missedOf TN_X2 TM_X2_114 hd_X2_missedOf ⟨Nat.le_of_ble_eq_true rfl, Nat.le_of_ble_eq_true rfl⟩) TI_X2_missedOf TS_X2_missedOf (ct_fore G _ _) rfl rfl rfl (Nat.le_of_ble_eq_true rfl) dX2_drifts_14 ⟨Nat.le_of_ble_eq_true rfl, Nat.le_of_ble_eq_true rfl⟩) hS (fun v_3 H locs w_4 hR hS => ?_)
        refine lv_istore (lv' := [(4, .int v_3), (0, .ref (G.2.1 18)), (1, .ref (G.2.1 (80 + cq))), (2, .int hr), (3, .int t)]) hC.x hC.b dX2_drifts_17 hl (by decide) rfl (fun ls hl => ?_)
        refine lv_aload_n hC.x hC.b dX2_drifts_19 rfl (lv_at hl 1 rfl) ?_
        refine lv_aload_n hC.x hC.b dX2_drifts_20 rfl (lv_at hl 2 rfl) ?_
        refine lv_iload_n hC.x hC.b dX2_drifts_21 rfl (lv_at hl 4 rfl) ?_
        refine goip (runV (As := [.ref (G.2.1 (80 + cq)), .int t]) (rest := []) hC hK hR hl.1 (c_X2_missedOf l hG σ τ cq hcq t ) (call_b hC.ts TC_X2_missedOf TN_X2 TM_X2_114 hd_X2_missedOf ⟨Nat.le_of_ble_eq_true rfl, Nat.le_of_ble_eq_true rfl⟩) TI_X2_missedOf TS_X2_missedOf (ct_fore G _ _) rfl rfl rfl (Nat.le_of_ble_eq_true rfl) dX2_drifts_22 ⟨Nat.le_of_ble_eq_true rfl, Nat.le_of_ble_eq_true rfl⟩) hS (fun v_5 H locs w_6 hR hS => ?_)
        refine lv_istore (lv' := [(5, .int v_5), (4, .int v_3), (0, .ref (G.2.1 18)), (1, .ref (G.2.1 (80 + cq))), (2, .int hr), (3, .int t)]) hC.x hC.b dX2_drifts_25 hl (by decide) rfl (fun ls hl => ?_)
        refine lv_iload hC.x hC.b dX2_drifts_27 (lv_at hl 1 rfl) ?_
        refine lv_ldc hC.x hC.b hC.ow (hC.ts _ TK_X2_44) dX2_drifts_29 ?_
        refine bi_eq (tgt := 64) (a := v_3.toInt) (b := 2000000000) hC.x hC.b rfl rfl dX2_drifts_31 (by decide) (fun c_7 => ?_) (fun c_7 => ?_)
        · skip
          refine lv_iconst (v := 0) hC.x hC.b dX2_drifts_64 (by decide) ?_
          exact retz hC hK hR hS (Or.inl rfl) ⟨rfl, (by first | exact Or.inr ((by first | rfl | omega)) | exact False.elim (by omega))⟩ dX2_drifts_65
        · skip
          refine lv_iload hC.x hC.b dX2_drifts_34 (lv_at hl 0 rfl) ?_
          refine lv_ldc hC.x hC.b hC.ow (hC.ts _ TK_X2_44) dX2_drifts_36 ?_
          refine bi_eq (tgt := 64) (a := v_5.toInt) (b := 2000000000) hC.x hC.b rfl rfl dX2_drifts_38 (by decide) (fun c_8 => ?_) (fun c_8 => ?_)
          · skip
            refine lv_iconst (v := 0) hC.x hC.b dX2_drifts_64 (by decide) ?_
            exact retz hC hK hR hS (Or.inl rfl) ⟨rfl, (by first | exact Or.inr ((by first | rfl | omega)) | exact False.elim (by omega))⟩ dX2_drifts_65
          · skip
            refine lv_iload hC.x hC.b dX2_drifts_41 (lv_at hl 1 rfl) ?_
            refine lv_iload hC.x hC.b dX2_drifts_43 (lv_at hl 0 rfl) ?_
            refine goip (runS (As := [.int v_3, .int v_5]) (rest := []) hC hK hR hl.1 (c_X2_haveOneSign l hG σ τ v_3 v_5 ) (call_b hC.ts TC_X2_haveOneSign TN_X2 TM_X2_117 hd_X2_haveOneSign ⟨Nat.le_of_ble_eq_true rfl, Nat.le_of_ble_eq_true rfl⟩) TT_X2_haveOneSign rfl rfl (Nat.le_of_ble_eq_true rfl) dX2_drifts_45 ⟨Nat.le_of_ble_eq_true rfl, Nat.le_of_ble_eq_true rfl⟩) hS (fun v_9 H locs w_10 hR hS => ?_)
            rcases w_10 with rfl | rfl
            · skip
              refine bz_eq (tgt := 64) (a := 1) (b := 0) hC.x hC.b rfl rfl dX2_drifts_48 (by decide) (fun c_11 => absurd c_11 (by decide)) (fun _ => ?_)
              refine lv_iload hC.x hC.b dX2_drifts_51 (lv_at hl 0 rfl) ?_
              refine goip (runS (As := [.int v_5]) (rest := []) hC hK hR hl.1 (c_J9_abs_0f7a4 l hG σ τ v_5 ) (call_b hC.ts TC_J9_abs_0f7a4 TN_J9 TM_X2_110 hd_J9_abs_0f7a4 ⟨Nat.le_of_ble_eq_true rfl, Nat.le_of_ble_eq_true rfl⟩) TT_J9_abs_0f7a4 rfl rfl (Nat.le_of_ble_eq_true rfl) dX2_drifts_53 ⟨Nat.le_of_ble_eq_true rfl, Nat.le_of_ble_eq_true rfl⟩) hS (fun v_12 H locs w_13 hR hS => ?_)
              have f_14 := w_13
              refine lv_iload hC.x hC.b dX2_drifts_56 (lv_at hl 1 rfl) ?_
              refine goip (runS (As := [.int v_3]) (rest := [.int v_12]) hC hK hR hl.1 (c_J9_abs_0f7a4 l hG σ τ v_3 ) (call_b hC.ts TC_J9_abs_0f7a4 TN_J9 TM_X2_110 hd_J9_abs_0f7a4 ⟨Nat.le_of_ble_eq_true rfl, Nat.le_of_ble_eq_true rfl⟩) TT_J9_abs_0f7a4 rfl rfl (Nat.le_of_ble_eq_true rfl) dX2_drifts_58 ⟨Nat.le_of_ble_eq_true rfl, Nat.le_of_ble_eq_true rfl⟩) hS (fun v_15 H locs w_16 hR hS => ?_)
              have f_17 := w_16
              refine bi_gt (tgt := 66) (a := v_12.toInt) (b := v_15.toInt) hC.x hC.b rfl rfl dX2_drifts_61 (by decide) (fun c_18 => ?_) (fun c_18 => ?_)
              · skip
                obtain ⟨x_19, ex_20⟩ : ∃ y : Int32, y = t + 1 := ⟨_, rfl⟩
                have pr_21 : x_19.toInt = t.toInt + (1) := by rw [ex_20]; exact addI rfl rfl (by omega) (by omega)
                refine lv_iinc (v := x_19) (lv' := [(3, .int x_19), (5, .int v_5), (4, .int v_3), (0, .ref (G.2.1 18)), (1, .ref (G.2.1 (80 + cq))), (2, .int hr)]) hC.x hC.b dX2_drifts_66 hl (k := 5) rfl ex_20.symm (by decide) rfl (fun ls hl => ?_)
                refine lv_goto (tgt := 4) hC.x hC.b dX2_drifts_69 (by decide) ?_
                exact ih_4 x_19 (by omega) (by first | omega | assumption) (by first | omega | assumption) _ _ _ hR hS (lv_sub hl [3, 4, 5, 0] rfl)
              · skip
                refine lv_iconst (v := 0) hC.x hC.b dX2_drifts_64 (by decide) ?_
                exact retz hC hK hR hS (Or.inl rfl) ⟨rfl, (by first | exact Or.inr ((by first | rfl | omega)) | exact False.elim (by omega))⟩ dX2_drifts_65
            · skip
              refine bz_eq (tgt := 64) (a := 0) (b := 0) hC.x hC.b rfl rfl dX2_drifts_48 (by decide) (fun _ => ?_) (fun c_22 => absurd c_22 (by decide))
              refine lv_iconst (v := 0) hC.x hC.b dX2_drifts_64 (by decide) ?_
              exact retz hC hK hR hS (Or.inl rfl) ⟨rfl, (by first | exact Or.inr ((by first | rfl | omega)) | exact False.elim (by omega))⟩ dX2_drifts_65
  exact L_4 _ (hr - (2 : Int32)) (Nat.lt_succ_self _) (by first | omega | assumption) (by first | omega | assumption) _ _ _ hR hS (lv_sub hl [1, 2, 3, 0] rfl)
