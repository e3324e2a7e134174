abbrev po_X1_leastTaken (G : Gx) (σ : SI) (τ : SL) : Option Nat → SI × SL → Prop := fun v u => u = (σ, τ) ∧ (((v = none)) ∨ (∃ j, j < 24 ∧ (v = some (G.2.1 (80 + j)))))
set_option maxRecDepth 100000 in
set_option maxHeartbeats 4000000 in
theorem c_X1_leastTaken (l : Launch) {G : Gx} {A : Nat → Prop} (hG : GOk G A) (σ : SI) (τ : SL) : MR l G A 2 yX1_leastTaken cX1_leastTaken 3 (some (.object "TimeBench$Clock")) [.ref (G.2.1 21)] (σ, τ) (po_X1_leastTaken G σ τ ) := by
  refine met_of (own := RX1) (by decide +kernel) rfl [(0, .ref (G.2.1 21))] rfl (Nat.le_of_ble_eq_true rfl) ?_
  intro p e s m args below meth c ls hC hK hR hl
  have hS : va_S A s.heap s.heap [] := va_S.rf
  refine lv_iconst (v := 0) hC.x hC.b dX1_leastTaken_0 (by decide) ?_
  refine lv_istore_n (lv' := [(1, .int (0 : Int32)), (0, .ref (G.2.1 21))]) hC.x hC.b dX1_leastTaken_1 rfl hl (by decide) rfl (fun ls hl => ?_)
  have L_2 : ∀ (F : Nat) (n : Nat), (24 - n) < F → (n ≤ 24) → ∀ (H : Heap) (locs : List Loc) (ls : Array Slot), RepH G σ τ H → va_S A s.heap H locs → lv_has ls 3 [(0, .ref (G.2.1 21)), (1, .int (nI n))] → W p l e (rmD 2) s m args below meth c H locs 0 0 (MQ below (va_Qq (po_X1_leastTaken G σ τ ) (BU G) A) args s 0 0 A) (F0 m 2 ls []) := by
    intro F
    induction F with
    | zero => intro n hm; exact absurd hm (Nat.not_lt_zero _)
    | succ F ih_2 =>
      intro n hm_2 hi0_2 H locs ls hR hS hl
      refine lv_iload_n hC.x hC.b dX1_leastTaken_2 rfl (lv_at hl 1 rfl) ?_
      refine lv_bipush (v := 24) hC.x hC.b dX1_leastTaken_3 (by decide) ?_
      refine bi_ge (tgt := 36) (a := (n : Int)) (b := 24) hC.x hC.b (nI_T n (by omega)) rfl dX1_leastTaken_5 (by decide) (fun c_1 => ?_) (fun c_1 => ?_)
      · skip
        refine lv_null hC.x hC.b dX1_leastTaken_36 ?_
        exact retn hC hK hR hS ⟨rfl, (by first | exact Or.inl (by first | rfl | omega) | exact False.elim (by omega))⟩ dX1_leastTaken_37
      · skip
        refine lv_aload_n hC.x hC.b dX1_leastTaken_8 rfl (lv_at hl 0 rfl) ?_
        refine rget hC hK hR (ct_closing G _ _) rfl uin_X1 0 (by decide) TF_X1_19 rfl dX1_leastTaken_9 ?_
        refine lv_iload_n hC.x hC.b dX1_leastTaken_12 rfl (lv_at hl 1 rfl) ?_
        have av_2 : (nI n).toInt = (n : Int) := (nI_T n (by omega))
        refine goqp (runV (As := [.int (nI n)]) (rest := []) hC hK hR hl.1 (c_X5_clockAt l hG σ τ (nI n) n (by first | rfl | (rw [show (nI n).toInt = (n : Int) from (nI_T n (by omega))]; done) | (rw [show (nI n).toInt = (n : Int) from (nI_T n (by omega))]; exact (Int.toNat_natCast _))) ) (call_b hC.ts TC_X5_clockAt TN_X5 TM_X1_73 hd_X5_clockAt ⟨Nat.le_of_ble_eq_true rfl, Nat.le_of_ble_eq_true rfl⟩) TI_X5_clockAt TS_X5_clockAt (ct_shelf G _ _) rfl rfl rfl (Nat.le_of_ble_eq_true rfl) dX1_leastTaken_13 ⟨Nat.le_of_ble_eq_true rfl, Nat.le_of_ble_eq_true rfl⟩) hS (fun v_3 H locs w_4 hR hS => ?_)
        rcases w_4 with ⟨rfl, f_5⟩ | ⟨rfl, f_6, f_7, f_8, f_9⟩
        · skip
          refine lv_astore_nN (lv' := [(2, .null), (0, .ref (G.2.1 21)), (1, .int (nI n))]) hC.x hC.b dX1_leastTaken_16 rfl hl (by decide) rfl (fun ls hl => ?_)
          refine lv_aload_nN hC.x hC.b dX1_leastTaken_17 rfl (lv_at hl 0 rfl) ?_
          refine lv_ifnullN (tgt := 30) hC.x hC.b dX1_leastTaken_18 (by decide) ?_
          refine lv_iinc (v := nI (n + 1)) (lv' := [(1, .int (nI (n + 1))), (2, .null), (0, .ref (G.2.1 21))]) hC.x hC.b dX1_leastTaken_30 hl (k := 2) rfl (nI_succ _).symm (by decide) rfl (fun ls hl => ?_)
          refine lv_goto (tgt := 2) hC.x hC.b dX1_leastTaken_33 (by decide) ?_
          exact ih_2 (n + 1) (by omega) (by first | omega | assumption) _ _ _ hR hS (lv_sub hl [2, 0] rfl)
        · skip
          have hq_10 : n < 24 := by omega
          refine lv_astore_n (lv' := [(2, .ref (G.2.1 (80 + n))), (0, .ref (G.2.1 21)), (1, .int (nI n))]) hC.x hC.b dX1_leastTaken_16 rfl hl (by decide) rfl (fun ls hl => ?_)
          refine lv_aload_n hC.x hC.b dX1_leastTaken_17 rfl (lv_at hl 0 rfl) ?_
          refine lv_ifnull hC.x hC.b dX1_leastTaken_18 ?_
          refine lv_aload_n hC.x hC.b dX1_leastTaken_21 rfl (lv_at hl 0 rfl) ?_
          refine goip (runV (As := []) (rest := []) hC hK hR hl.1 (c_X0_isTaken l hG σ τ n hq_10 ) (call_b hC.ts TC_X0_isTaken TN_X0 TM_X1_79 hd_X0_isTaken ⟨Nat.le_of_ble_eq_true rfl, Nat.le_of_ble_eq_true rfl⟩) TI_X0_isTaken TS_X0_isTaken (ct_clock hq_10 G _ _) rfl rfl rfl (Nat.le_of_ble_eq_true rfl) dX1_leastTaken_22 ⟨Nat.le_of_ble_eq_true rfl, Nat.le_of_ble_eq_true rfl⟩) hS (fun v_11 H locs w_12 hR hS => ?_)
          rcases w_12 with ⟨rfl, f_13, f_14⟩ | ⟨rfl, f_15⟩
          · skip
            refine bz_eq (tgt := 30) (a := 1) (b := 0) hC.x hC.b rfl rfl dX1_leastTaken_25 (by decide) (fun c_16 => absurd c_16 (by decide)) (fun _ => ?_)
            refine lv_aload_n hC.x hC.b dX1_leastTaken_28 rfl (lv_at hl 0 rfl) ?_
            exact reta hC hK hR hS ⟨rfl, (by first | exact Or.inr ((⟨n, hq_10, by first | rfl | omega⟩)) | exact False.elim (by omega))⟩ dX1_leastTaken_29
          · skip
            refine bz_eq (tgt := 30) (a := 0) (b := 0) hC.x hC.b rfl rfl dX1_leastTaken_25 (by decide) (fun _ => ?_) (fun c_17 => absurd c_17 (by decide))
            refine lv_iinc (v := nI (n + 1)) (lv' := [(1, .int (nI (n + 1))), (2, .ref (G.2.1 (80 + n))), (0, .ref (G.2.1 21))]) hC.x hC.b dX1_leastTaken_30 hl (k := 2) rfl (nI_succ _).symm (by decide) rfl (fun ls hl => ?_)
            refine lv_goto (tgt := 2) hC.x hC.b dX1_leastTaken_33 (by decide) ?_
            exact ih_2 (n + 1) (by omega) (by first | omega | assumption) _ _ _ hR hS (lv_sub hl [2, 0] rfl)
  exact L_2 _ 0 (Nat.lt_succ_self _) (by first | omega | assumption) _ _ _ hR hS (lv_sub hl [1, 0] rfl)

abbrev po_X1_hold (σ : SI) (τ : SL) (rq : Nat) (hr : Int32) : SI × SL → Prop := fun u => ((CF σ u.1))
set_option maxRecDepth 100000 in
set_option maxHeartbeats 4000000 in
theorem c_X1_hold (l : Launch) {G : Gx} {A : Nat → Prop} (hG : GOk G A) (σ : SI) (τ : SL) (rq : Nat) (hrq : rq < 24) (hr : Int32) : MV l G A 4 yX1_hold cX1_hold 6 none [.ref (G.2.1 21), .ref (G.2.1 (80 + rq)), .int hr] (σ, τ) (po_X1_hold σ τ rq hr) := by
  refine met_of (own := RX1) (by decide +kernel) rfl [(0, .ref (G.2.1 21)), (1, .ref (G.2.1 (80 + rq))), (2, .int hr)] rfl (Nat.le_of_ble_eq_true rfl) ?_
  intro p e s m args below meth c ls hC hK hR hl
  have hS : va_S A s.heap s.heap [] := va_S.rf
  refine lv_aload_n hC.x hC.b dX1_hold_0 rfl (lv_at hl 0 rfl) ?_
  refine rget hC hK hR (ct_closing G _ _) rfl uin_X1 1 (by decide) TF_X1_23 rfl dX1_hold_1 ?_
  refine lv_aload_n hC.x hC.b dX1_hold_4 rfl (lv_at hl 1 rfl) ?_
  refine rget hC hK hR (ct_clock hrq G _ _) rfl uin_X0 0 (by decide) TF_X1_62 rfl dX1_hold_5 ?_
  refine lv_iload_n hC.x hC.b dX1_hold_8 rfl (lv_at hl 2 rfl) ?_
  have av_1 : (nI rq).toInt = ((rq : Nat) : Int) := (nI_T _ (by omega))
  refine gov (runV (As := [.int (nI rq), .int hr]) (rest := []) hC hK hR hl.1 (c_X8_spread l hG σ τ (nI rq) hr ) (call_b hC.ts TC_X8_spread TN_X8 TM_X1_83 hd_X8_spread ⟨Nat.le_of_ble_eq_true rfl, Nat.le_of_ble_eq_true rfl⟩) TI_X8_spread TS_X8_spread (ct_ways G _ _) rfl rfl rfl (Nat.le_of_ble_eq_true rfl) dX1_hold_9 ⟨Nat.le_of_ble_eq_true rfl, Nat.le_of_ble_eq_true rfl⟩) hS (fun s_4 t_5 H locs w_3 hR hS => ?_)
  try dsimp only [po_X8_spread] at w_3
  have f_6 := w_3
  refine lv_iconst (v := 0) hC.x hC.b dX1_hold_12 (by decide) ?_
  refine lv_istore_n (lv' := [(3, .int (0 : Int32)), (0, .ref (G.2.1 21)), (1, .ref (G.2.1 (80 + rq))), (2, .int hr)]) hC.x hC.b dX1_hold_13 rfl hl (by decide) rfl (fun ls hl => ?_)
  have L_14 : ∀ (F : Nat) (n : Nat) (s1 : SI) (t1 : SL), (24 - n) < F → (n ≤ 24) → (CF σ s1) → ∀ (H : Heap) (locs : List Loc) (ls : Array Slot), RepH G s1 t1 H → va_S A s.heap H locs → lv_has ls 6 [(0, .ref (G.2.1 21)), (1, .ref (G.2.1 (80 + rq))), (2, .int hr), (3, .int (nI n))] → W p l e (rmD 4) s m args below meth c H locs 0 0 (MQ below (va_Qv (po_X1_hold σ τ rq hr) (BU G) A) args s 0 0 A) (F0 m 14 ls []) := by
    intro F
    induction F with
    | zero => intro n s1 t1 hm; exact absurd hm (Nat.not_lt_zero _)
    | succ F ih_14 =>
      intro n s1 t1 hm_14 hi0_14 hi1_14 H locs ls hR hS hl
      have hnI := nI_T n (by omega)
      refine lv_iload_n hC.x hC.b dX1_hold_14 rfl (lv_at hl 3 rfl) ?_
      refine lv_bipush (v := 24) hC.x hC.b dX1_hold_15 (by decide) ?_
      refine bi_ge (tgt := 153) (a := (n : Int)) (b := 24) hC.x hC.b (nI_T n (by omega)) rfl dX1_hold_17 (by decide) (fun c_7 => ?_) (fun c_7 => ?_)
      · skip
        exact retv hC hK hR hS (by exact hi1_14) dX1_hold_153
      · skip
        refine lv_aload_n hC.x hC.b dX1_hold_20 rfl (lv_at hl 0 rfl) ?_
        refine rget hC hK hR (ct_closing G _ _) rfl uin_X1 5 (by decide) TF_X1_9 rfl dX1_hold_21 ?_
        refine lv_iload_n hC.x hC.b dX1_hold_24 rfl (lv_at hl 3 rfl) ?_
        refine lv_iconst (v := 0) hC.x hC.b dX1_hold_25 (by decide) ?_
        refine ast hC hK hG hR hS (fun _ => ct_fullWeights G _ _) (nI_T n (by omega)) (by omega) (by omega) (Int.toNat_natCast _) dX1_hold_26 (fun s_8 es_9 H locs hR hS => ?_)
        refine lv_aload_n hC.x hC.b dX1_hold_27 rfl (lv_at hl 0 rfl) ?_
        refine rget hC hK hR (ct_closing G _ _) rfl uin_X1 0 (by decide) TF_X1_19 rfl dX1_hold_28 ?_
        refine lv_iload_n hC.x hC.b dX1_hold_31 rfl (lv_at hl 3 rfl) ?_
        have av_10 : (nI n).toInt = (n : Int) := (nI_T n (by omega))
        refine goqp (runV (As := [.int (nI n)]) (rest := []) hC hK hR hl.1 (c_X5_clockAt l hG s_8 t1 (nI n) n (by first | rfl | (rw [show (nI n).toInt = (n : Int) from (nI_T n (by omega))]; done) | (rw [show (nI n).toInt = (n : Int) from (nI_T n (by omega))]; exact (Int.toNat_natCast _))) ) (call_b hC.ts TC_X5_clockAt TN_X5 TM_X1_73 hd_X5_clockAt ⟨Nat.le_of_ble_eq_true rfl, Nat.le_of_ble_eq_true rfl⟩) TI_X5_clockAt TS_X5_clockAt (ct_shelf G _ _) rfl rfl rfl (Nat.le_of_ble_eq_true rfl) dX1_hold_32 ⟨Nat.le_of_ble_eq_true rfl, Nat.le_of_ble_eq_true rfl⟩) hS (fun v_11 H locs w_12 hR hS => ?_)
        rcases w_12 with ⟨rfl, f_13⟩ | ⟨rfl, f_14, f_15, f_16, f_17⟩
        · skip
          refine lv_astoreN (lv' := [(4, .null), (0, .ref (G.2.1 21)), (1, .ref (G.2.1 (80 + rq))), (2, .int hr), (3, .int (nI n))]) hC.x hC.b dX1_hold_35 hl (by decide) rfl (fun ls hl => ?_)
          refine lv_aloadN hC.x hC.b dX1_hold_37 (lv_at hl 0 rfl) ?_
          refine lv_ifnullN (tgt := 147) hC.x hC.b dX1_hold_39 (by decide) ?_
          refine lv_iinc (v := nI (n + 1)) (lv' := [(3, .int (nI (n + 1))), (4, .null), (0, .ref (G.2.1 21)), (1, .ref (G.2.1 (80 + rq))), (2, .int hr)]) hC.x hC.b dX1_hold_147 hl (k := 4) rfl (nI_succ _).symm (by decide) rfl (fun ls hl => ?_)
          refine lv_goto (tgt := 14) hC.x hC.b dX1_hold_150 (by decide) ?_
          exact ih_14 (n + 1) s_8 t1 (by omega) (by first | omega | assumption) (by rw [es_9]; exact CF.up (hi1_14) (by omega)) _ _ _ hR hS (lv_sub hl [2, 3, 4, 0] rfl)
        · skip
          have hq_18 : n < 24 := by omega
          refine lv_astore (lv' := [(4, .ref (G.2.1 (80 + n))), (0, .ref (G.2.1 21)), (1, .ref (G.2.1 (80 + rq))), (2, .int hr), (3, .int (nI n))]) hC.x hC.b dX1_hold_35 hl (by decide) rfl (fun ls hl => ?_)
          refine lv_aload hC.x hC.b dX1_hold_37 (lv_at hl 0 rfl) ?_
          refine lv_ifnull hC.x hC.b dX1_hold_39 ?_
          refine lv_aload hC.x hC.b dX1_hold_42 (lv_at hl 0 rfl) ?_
          refine goip (runV (As := []) (rest := []) hC hK hR hl.1 (c_X0_isTaken l hG s_8 t1 n hq_18 ) (call_b hC.ts TC_X0_isTaken TN_X0 TM_X1_79 hd_X0_isTaken ⟨Nat.le_of_ble_eq_true rfl, Nat.le_of_ble_eq_true rfl⟩) TI_X0_isTaken TS_X0_isTaken (ct_clock hq_18 G _ _) rfl rfl rfl (Nat.le_of_ble_eq_true rfl) dX1_hold_44 ⟨Nat.le_of_ble_eq_true rfl, Nat.le_of_ble_eq_true rfl⟩) hS (fun v_19 H locs w_20 hR hS => ?_)
          rcases w_20 with ⟨rfl, f_21, f_22⟩ | ⟨rfl, f_23⟩
          · skip
            refine bz_eq (tgt := 147) (a := 1) (b := 0) hC.x hC.b rfl rfl dX1_hold_47 (by decide) (fun c_24 => absurd c_24 (by decide)) (fun _ => ?_)
            refine lv_aload_n hC.x hC.b dX1_hold_50 rfl (lv_at hl 1 rfl) ?_
            refine rget hC hK hR (ct_closing G _ _) rfl uin_X1 1 (by decide) TF_X1_23 rfl dX1_hold_51 ?_
            refine lv_iload_n hC.x hC.b dX1_hold_54 rfl (lv_at hl 4 rfl) ?_
            have av_25 : (nI n).toInt = (n : Int) := (nI_T n (by omega))
            refine goip (runV (As := [.int (nI n)]) (rest := []) hC hK hR hl.1 (c_X8_lengthTo l hG s_8 t1 (nI n) n (by first | rfl | (rw [show (nI n).toInt = (n : Int) from (nI_T n (by omega))]; done) | (rw [show (nI n).toInt = (n : Int) from (nI_T n (by omega))]; exact (Int.toNat_natCast _))) ) (call_b hC.ts TC_X8_lengthTo TN_X8 TM_X1_88 hd_X8_lengthTo ⟨Nat.le_of_ble_eq_true rfl, Nat.le_of_ble_eq_true rfl⟩) TI_X8_lengthTo TS_X8_lengthTo (ct_ways G _ _) rfl rfl rfl (Nat.le_of_ble_eq_true rfl) dX1_hold_55 ⟨Nat.le_of_ble_eq_true rfl, Nat.le_of_ble_eq_true rfl⟩) hS (fun v_26 H locs w_27 hR hS => ?_)
            rcases w_27 with ⟨rfl, f_28, f_29⟩ | ⟨rfl, f_30⟩
            · skip
              refine lv_iconst (v := (-1)) hC.x hC.b dX1_hold_58 (by decide) ?_
              refine bi_ne (tgt := 65) (a := (s_8 14 n).toInt) (b := (-1)) hC.x hC.b rfl rfl dX1_hold_59 (by decide) (fun c_31 => ?_) (fun c_31 => ?_)
              · skip
                refine lv_aload_n hC.x hC.b dX1_hold_65 rfl (lv_at hl 1 rfl) ?_
                refine rget hC hK hR (ct_closing G _ _) rfl uin_X1 3 (by decide) TF_X1_31 rfl dX1_hold_66 ?_
                refine lv_aload hC.x hC.b dX1_hold_69 (lv_at hl 0 rfl) ?_
                refine lv_iload_n hC.x hC.b dX1_hold_71 rfl (lv_at hl 3 rfl) ?_
                refine goi (runV (As := [.ref (G.2.1 (80 + n)), .int hr]) (rest := []) hC hK hR hl.1 (c_X2_foretoldOf l hG s_8 t1 n hq_18 hr ) (call_b hC.ts TC_X2_foretoldOf TN_X2 TM_X1_92 hd_X2_foretoldOf ⟨Nat.le_of_ble_eq_true rfl, Nat.le_of_ble_eq_true rfl⟩) TI_X2_foretoldOf TS_X2_foretoldOf (ct_fore G _ _) rfl rfl rfl (Nat.le_of_ble_eq_true rfl) dX1_hold_72 ⟨Nat.le_of_ble_eq_true rfl, Nat.le_of_ble_eq_true rfl⟩) hS (fun v_32 s_34 t_35 H locs w_33 hR hS => ?_)
                try dsimp only [po_X2_foretoldOf] at w_33
                have f_36 := w_33
                refine lv_istore (lv' := [(5, .int v_32), (4, .ref (G.2.1 (80 + n))), (0, .ref (G.2.1 21)), (1, .ref (G.2.1 (80 + rq))), (2, .int hr), (3, .int (nI n))]) hC.x hC.b dX1_hold_75 hl (by decide) rfl (fun ls hl => ?_)
                refine lv_aload_n hC.x hC.b dX1_hold_77 rfl (lv_at hl 2 rfl) ?_
                refine rget hC hK hR (ct_closing G _ _) rfl uin_X1 2 (by decide) TF_X1_27 rfl dX1_hold_78 ?_
                refine lv_iconst (v := 1) hC.x hC.b dX1_hold_81 (by decide) ?_
                refine lv_iload_n hC.x hC.b dX1_hold_82 rfl (lv_at hl 4 rfl) ?_
                refine lv_iload_n hC.x hC.b dX1_hold_83 rfl (lv_at hl 5 rfl) ?_
                refine lv_iload hC.x hC.b dX1_hold_84 (lv_at hl 0 rfl) ?_
                have av_37 : (1 : Int32).toInt = 1 := by decide
                have av_38 : (nI n).toInt = (n : Int) := (nI_T n (by omega))
                refine gov (runV (As := [.int (1 : Int32), .int hr, .int (nI n), .int v_32]) (rest := []) hC hK hR hl.1 (c_X7_tell l hG s_34 t_35 (1 : Int32) hr (nI n) v_32 ) (call_b hC.ts TC_X7_tell TN_X7 TM_X1_98 hd_X7_tell ⟨Nat.le_of_ble_eq_true rfl, Nat.le_of_ble_eq_true rfl⟩) TI_X7_tell TS_X7_tell (ct_told G _ _) rfl rfl rfl (Nat.le_of_ble_eq_true rfl) dX1_hold_86 ⟨Nat.le_of_ble_eq_true rfl, Nat.le_of_ble_eq_true rfl⟩) hS (fun s_41 t_42 H locs w_40 hR hS => ?_)
                try dsimp only [po_X7_tell] at w_40
                have f_43 := w_40
                refine lv_aload_n hC.x hC.b dX1_hold_89 rfl (lv_at hl 2 rfl) ?_
                refine rget hC hK hR (ct_closing G _ _) rfl uin_X1 2 (by decide) TF_X1_27 rfl dX1_hold_90 ?_
                refine lv_iconst (v := 4) hC.x hC.b dX1_hold_93 (by decide) ?_
                refine lv_iload_n hC.x hC.b dX1_hold_94 rfl (lv_at hl 4 rfl) ?_
                refine lv_iload_n hC.x hC.b dX1_hold_95 rfl (lv_at hl 5 rfl) ?_
                refine lv_aload_n hC.x hC.b dX1_hold_96 rfl (lv_at hl 2 rfl) ?_
                refine rget hC hK hR (ct_closing G _ _) rfl uin_X1 1 (by decide) TF_X1_23 rfl dX1_hold_97 ?_
                refine lv_iload_n hC.x hC.b dX1_hold_100 rfl (lv_at hl 5 rfl) ?_
                have av_44 : (nI n).toInt = (n : Int) := (nI_T n (by omega))
                refine goip (runV (As := [.int (nI n)]) (rest := [.int (nI n), .int hr, .int (4 : Int32), .ref (G.2.1 5)]) hC hK hR hl.1 (c_X8_sumTo l hG s_41 t_42 (nI n) ) (call_b hC.ts TC_X8_sumTo TN_X8 TM_X1_102 hd_X8_sumTo ⟨Nat.le_of_ble_eq_true rfl, Nat.le_of_ble_eq_true rfl⟩) TI_X8_sumTo TS_X8_sumTo (ct_ways G _ _) rfl rfl rfl (Nat.le_of_ble_eq_true rfl) dX1_hold_101 ⟨Nat.le_of_ble_eq_true rfl, Nat.le_of_ble_eq_true rfl⟩) hS (fun v_45 H locs w_46 hR hS => ?_)
                refine lv_ineg hC.x hC.b dX1_hold_104 ?_
                refine lv_aload hC.x hC.b dX1_hold_105 (lv_at hl 1 rfl) ?_
                refine rget hC hK hR (ct_clock hq_18 G _ _) rfl uin_X0 4 (by decide) TF_X1_105 rfl dX1_hold_107 ?_
                have rd_47 : (s_41 (80 + n) 4).toInt = (σ (80 + n) 4).toInt := congrArg Int32.toInt (Eq.trans (show s_41 (80 + n) 4 = s_34 (80 + n) 4 from f_43.2 n 4 hq_18 (by omega)) (Eq.trans (show s_34 (80 + n) 4 = s_8 (80 + n) 4 from congrFun (f_36 (80 + n) (by first | omega | (dsimp only; omega))) 4) (Eq.trans (show s_8 (80 + n) 4 = s1 (80 + n) 4 from (by rw [es_9]; exact up2_o (by omega))) (show s1 (80 + n) 4 = σ (80 + n) 4 from hi1_14.2 n 4 hq_18 (by omega)))))
                refine lv_isub hC.x hC.b dX1_hold_110 ?_
                refine lv_aload_n hC.x hC.b dX1_hold_111 rfl (lv_at hl 3 rfl) ?_
                refine rget hC hK hR (ct_clock hrq G _ _) rfl uin_X0 4 (by decide) TF_X1_105 rfl dX1_hold_112 ?_
                have rd_48 : (s_41 (80 + rq) 4).toInt = (σ (80 + rq) 4).toInt := congrArg Int32.toInt (Eq.trans (show s_41 (80 + rq) 4 = s_34 (80 + rq) 4 from f_43.2 rq 4 hrq (by omega)) (Eq.trans (show s_34 (80 + rq) 4 = s_8 (80 + rq) 4 from congrFun (f_36 (80 + rq) (by first | omega | (dsimp only; omega))) 4) (Eq.trans (show s_8 (80 + rq) 4 = s1 (80 + rq) 4 from (by rw [es_9]; exact up2_o (by omega))) (show s1 (80 + rq) 4 = σ (80 + rq) 4 from hi1_14.2 rq 4 hrq (by omega)))))
                refine lv_iadd hC.x hC.b dX1_hold_115 ?_
                have av_49 : (4 : Int32).toInt = 4 := by decide
                have av_50 : (nI n).toInt = (n : Int) := (nI_T n (by omega))
                refine gov (runV (As := [.int (4 : Int32), .int hr, .int (nI n), .int (((-v_45) - (s_41 (80 + n) 4)) + (s_41 (80 + rq) 4))]) (rest := []) hC hK hR hl.1 (c_X7_tell l hG s_41 t_42 (4 : Int32) hr (nI n) (((-v_45) - (s_41 (80 + n) 4)) + (s_41 (80 + rq) 4)) ) (call_b hC.ts TC_X7_tell TN_X7 TM_X1_98 hd_X7_tell ⟨Nat.le_of_ble_eq_true rfl, Nat.le_of_ble_eq_true rfl⟩) TI_X7_tell TS_X7_tell (ct_told G _ _) rfl rfl rfl (Nat.le_of_ble_eq_true rfl) dX1_hold_116 ⟨Nat.le_of_ble_eq_true rfl, Nat.le_of_ble_eq_true rfl⟩) hS (fun s_53 t_54 H locs w_52 hR hS => ?_)
                try dsimp only [po_X7_tell] at w_52
                have f_55 := w_52
                refine lv_aload_n hC.x hC.b dX1_hold_119 rfl (lv_at hl 2 rfl) ?_
                refine rget hC hK hR (ct_closing G _ _) rfl uin_X1 5 (by decide) TF_X1_9 rfl dX1_hold_120 ?_
                refine lv_iload_n hC.x hC.b dX1_hold_123 rfl (lv_at hl 5 rfl) ?_
                refine lv_aload_n hC.x hC.b dX1_hold_124 rfl (lv_at hl 2 rfl) ?_
                refine rget hC hK hR (ct_closing G _ _) rfl uin_X1 3 (by decide) TF_X1_31 rfl dX1_hold_125 ?_
                refine lv_aload hC.x hC.b dX1_hold_128 (lv_at hl 1 rfl) ?_
                refine lv_iload_n hC.x hC.b dX1_hold_130 rfl (lv_at hl 4 rfl) ?_
                refine lv_iload hC.x hC.b dX1_hold_131 (lv_at hl 0 rfl) ?_
                refine goi (runV (As := [.ref (G.2.1 (80 + n)), .int hr, .int v_32]) (rest := [.int (nI n), .ref (G.2.1 22)]) hC hK hR hl.1 (c_X2_fullWeightOf l hG s_53 t_54 n hq_18 hr v_32 ) (call_b hC.ts TC_X2_fullWeightOf TN_X2 TM_X1_108 hd_X2_fullWeightOf ⟨Nat.le_of_ble_eq_true rfl, Nat.le_of_ble_eq_true rfl⟩) TI_X2_fullWeightOf TS_X2_fullWeightOf (ct_fore G _ _) rfl rfl rfl (Nat.le_of_ble_eq_true rfl) dX1_hold_133 ⟨Nat.le_of_ble_eq_true rfl, Nat.le_of_ble_eq_true rfl⟩) hS (fun v_56 s_58 t_59 H locs w_57 hR hS => ?_)
                try dsimp only [po_X2_fullWeightOf] at w_57
                have f_60 := w_57
                refine ast hC hK hG hR hS (fun _ => ct_fullWeights G _ _) (nI_T n (by omega)) (by omega) (by omega) (Int.toNat_natCast _) dX1_hold_136 (fun s_61 es_62 H locs hR hS => ?_)
                refine lv_aload_n hC.x hC.b dX1_hold_137 rfl (lv_at hl 2 rfl) ?_
                refine lv_dup hC.x hC.b dX1_hold_138 rfl ?_
                refine rget hC hK hR (ct_closing G _ _) rfl uin_X1 6 (by decide) TF_X1_15 rfl dX1_hold_139 ?_
                have rd_63 : (s_61 21 6).toInt = (s_53 21 6).toInt := congrArg Int32.toInt (Eq.trans (show s_61 21 6 = s_58 21 6 from (by rw [es_62]; exact up2_o (by omega))) (show s_58 21 6 = s_53 21 6 from congrFun (f_60 21 (by first | omega | (dsimp only; omega))) 6))
                refine lv_iconst (v := 1) hC.x hC.b dX1_hold_142 (by decide) ?_
                refine lv_iadd hC.x hC.b dX1_hold_143 ?_
                refine rputi hC hK hG hR hS (ct_closing G _ _) rfl uin_X1 tyX1 tyX1_ok nmX1 6 (by decide) TF_X1_15 rfl (Or.inl rfl) (Nat.le_of_ble_eq_true rfl) rfl (ct_closing G _ _) dX1_hold_144 (fun s_65 es_64 H locs hR hS => ?_)
                refine lv_iinc (v := nI (n + 1)) (lv' := [(3, .int (nI (n + 1))), (5, .int v_32), (4, .ref (G.2.1 (80 + n))), (0, .ref (G.2.1 21)), (1, .ref (G.2.1 (80 + rq))), (2, .int hr)]) hC.x hC.b dX1_hold_147 hl (k := 5) rfl (nI_succ _).symm (by decide) rfl (fun ls hl => ?_)
                refine lv_goto (tgt := 14) hC.x hC.b dX1_hold_150 (by decide) ?_
                exact ih_14 (n + 1) s_65 t_59 (by omega) (by first | omega | assumption) (by rw [es_64]; exact CF.up ((by rw [es_62]; exact CF.up ((CF.tr (CF.tr (CF.tr (CF.tr (by rw [es_9]; exact CF.up (hi1_14) (by omega)) (CF.fore f_36)) f_43) f_55) (CF.fore f_60))) (by omega))) (by omega)) _ _ _ hR hS (lv_sub hl [3, 4, 5, 0] rfl)
              · skip
                refine lv_goto (tgt := 147) hC.x hC.b dX1_hold_62 (by decide) ?_
                refine lv_iinc (v := nI (n + 1)) (lv' := [(3, .int (nI (n + 1))), (4, .ref (G.2.1 (80 + n))), (0, .ref (G.2.1 21)), (1, .ref (G.2.1 (80 + rq))), (2, .int hr)]) hC.x hC.b dX1_hold_147 hl (k := 4) rfl (nI_succ _).symm (by decide) rfl (fun ls hl => ?_)
                refine lv_goto (tgt := 14) hC.x hC.b dX1_hold_150 (by decide) ?_
                exact ih_14 (n + 1) s_8 t1 (by omega) (by first | omega | assumption) (by rw [es_9]; exact CF.up (hi1_14) (by omega)) _ _ _ hR hS (lv_sub hl [2, 3, 4, 0] rfl)
            · skip
              refine lv_iconst (v := (-1)) hC.x hC.b dX1_hold_58 (by decide) ?_
              refine bi_ne (tgt := 65) (a := (-1)) (b := (-1)) hC.x hC.b rfl rfl dX1_hold_59 (by decide) (fun c_66 => absurd c_66 (by decide)) (fun _ => ?_)
              refine lv_goto (tgt := 147) hC.x hC.b dX1_hold_62 (by decide) ?_
              refine lv_iinc (v := nI (n + 1)) (lv' := [(3, .int (nI (n + 1))), (4, .ref (G.2.1 (80 + n))), (0, .ref (G.2.1 21)), (1, .ref (G.2.1 (80 + rq))), (2, .int hr)]) hC.x hC.b dX1_hold_147 hl (k := 4) rfl (nI_succ _).symm (by decide) rfl (fun ls hl => ?_)
              refine lv_goto (tgt := 14) hC.x hC.b dX1_hold_150 (by decide) ?_
              exact ih_14 (n + 1) s_8 t1 (by omega) (by first | omega | assumption) (by rw [es_9]; exact CF.up (hi1_14) (by omega)) _ _ _ hR hS (lv_sub hl [2, 3, 4, 0] rfl)
          · skip
            refine bz_eq (tgt := 147) (a := 0) (b := 0) hC.x hC.b rfl rfl dX1_hold_47 (by decide) (fun _ => ?_) (fun c_67 => absurd c_67 (by decide))
            refine lv_iinc (v := nI (n + 1)) (lv' := [(3, .int (nI (n + 1))), (4, .ref (G.2.1 (80 + n))), (0, .ref (G.2.1 21)), (1, .ref (G.2.1 (80 + rq))), (2, .int hr)]) hC.x hC.b dX1_hold_147 hl (k := 4) rfl (nI_succ _).symm (by decide) rfl (fun ls hl => ?_)
            refine lv_goto (tgt := 14) hC.x hC.b dX1_hold_150 (by decide) ?_
            exact ih_14 (n + 1) s_8 t1 (by omega) (by first | omega | assumption) (by rw [es_9]; exact CF.up (hi1_14) (by omega)) _ _ _ hR hS (lv_sub hl [2, 3, 4, 0] rfl)
  exact L_14 _ 0 s_4 t_5 (Nat.lt_succ_self _) (by first | omega | assumption) (CF.tr CF.rf (CF.ways f_6)) _ _ _ hR hS (lv_sub hl [1, 2, 3, 0] rfl)

abbrev po_X1_weigh (σ : SI) (τ : SL) (hr : Int32) (pa : Int32) : SI × SL → Prop := fun u => ((CF σ u.1))
set_option maxRecDepth 100000 in
set_option maxHeartbeats 4000000 in
theorem c_X1_weigh (l : Launch) {G : Gx} {A : Nat → Prop} (hG : GOk G A) (σ : SI) (τ : SL) (hr : Int32) (pa : Int32) : MV l G A 1 yX1_weigh cX1_weigh 8 none [.ref (G.2.1 21), .int hr, .int pa] (σ, τ) (po_X1_weigh σ τ hr pa) := by
  refine met_of (own := RX1) (by decide +kernel) rfl [(0, .ref (G.2.1 21)), (1, .int hr), (2, .int pa)] rfl (Nat.le_of_ble_eq_true rfl) ?_
  intro p e s m args below meth c ls hC hK hR hl
  have hS : va_S A s.heap s.heap [] := va_S.rf
  refine lv_lconst (v := 0) hC.x hC.b dX1_weigh_0 (by decide) ?_
  refine lv_lstore_n (lv' := [(3, .long (0 : Int64)), (0, .ref (G.2.1 21)), (1, .int hr), (2, .int pa)]) hC.x hC.b dX1_weigh_1 rfl hl (by decide) rfl (fun ls hl => ?_)
  refine lv_iconst (v := 0) hC.x hC.b dX1_weigh_2 (by decide) ?_
  refine lv_istore (lv' := [(5, .int (0 : Int32)), (3, .long (0 : Int64)), (0, .ref (G.2.1 21)), (1, .int hr), (2, .int pa)]) hC.x hC.b dX1_weigh_3 hl (by decide) rfl (fun ls hl => ?_)
  have L_5 : ∀ (F : Nat) (n : Nat) (x3 : Int64), (24 - n) < F → (n ≤ 24) → ∀ (H : Heap) (locs : List Loc) (ls : Array Slot), RepH G σ τ H → va_S A s.heap H locs → lv_has ls 8 [(0, .ref (G.2.1 21)), (1, .int hr), (2, .int pa), (3, .long x3), (5, .int (nI n))] → W p l e (rmD 1) s m args below meth c H locs 0 0 (MQ below (va_Qv (po_X1_weigh σ τ hr pa) (BU G) A) args s 0 0 A) (F0 m 5 ls []) := by
    intro F
    induction F with
    | zero => intro n x3 hm; exact absurd hm (Nat.not_lt_zero _)
    | succ F ih_5 =>
      intro n x3 hm_5 hi0_5 H locs ls hR hS hl
      refine lv_iload hC.x hC.b dX1_weigh_5 (lv_at hl 4 rfl) ?_
      refine lv_bipush (v := 24) hC.x hC.b dX1_weigh_7 (by decide) ?_
      refine bi_ge (tgt := 29) (a := (n : Int)) (b := 24) hC.x hC.b (nI_T n (by omega)) rfl dX1_weigh_9 (by decide) (fun c_1 => ?_) (fun c_1 => ?_)
      · skip
        refine lv_lconst (v := 1) hC.x hC.b dX1_weigh_29 (by decide) ?_
        refine lv_iload_n hC.x hC.b dX1_weigh_30 rfl (lv_at hl 2 rfl) ?_
        refine lv_i2l hC.x hC.b dX1_weigh_31 rfl ?_
        refine lv_lload_n hC.x hC.b dX1_weigh_32 rfl (lv_at hl 3 rfl) ?_
        refine lv_lmul hC.x hC.b dX1_weigh_33 ?_
        refine lv_ldc2 hC.x hC.b hC.ow (hC.ts _ TK_X1_112) dX1_weigh_34 ?_
        refine lv_ldiv hC.x hC.b dX1_weigh_37 (by decide) ?_
        have av_2 : (1 : Int64).toInt = 1 := by decide
        refine golp (runS (As := [.long (1 : Int64), .long ((pa.toInt64 * x3) / (100 : Int64))]) (rest := []) hC hK hR hl.1 (c_J9_max_f86c9 l hG σ τ (1 : Int64) ((pa.toInt64 * x3) / (100 : Int64)) ) (call_b hC.ts TC_J9_max_f86c9 TN_J9 TM_X1_114 hd_J9_max_f86c9 ⟨Nat.le_of_ble_eq_true rfl, Nat.le_of_ble_eq_true rfl⟩) TT_J9_max_f86c9 rfl rfl (Nat.le_of_ble_eq_true rfl) dX1_weigh_38 ⟨Nat.le_of_ble_eq_true rfl, Nat.le_of_ble_eq_true rfl⟩) hS (fun v_3 H locs w_4 hR hS => ?_)
        have f_5 := w_4
        refine lv_topl (fun x_6 ex_7 => ?_)
        refine lv_lstore (lv' := [(5, .long x_6), (0, .ref (G.2.1 21)), (1, .int hr), (2, .int pa), (3, .long x3)]) hC.x hC.b dX1_weigh_41 hl (by decide) rfl (fun ls hl => ?_)
        refine lv_iconst (v := 0) hC.x hC.b dX1_weigh_43 (by decide) ?_
        refine lv_istore (lv' := [(7, .int (0 : Int32)), (5, .long x_6), (0, .ref (G.2.1 21)), (1, .int hr), (2, .int pa), (3, .long x3)]) hC.x hC.b dX1_weigh_44 hl (by decide) rfl (fun ls hl => ?_)
        have L_46 : ∀ (F : Nat) (n : Nat) (s1 : SI) (t1 : SL), (24 - n) < F → (n ≤ 24) → (CF σ s1) → ∀ (H : Heap) (locs : List Loc) (ls : Array Slot), RepH G s1 t1 H → va_S A s.heap H locs → lv_has ls 8 [(0, .ref (G.2.1 21)), (1, .int hr), (2, .int pa), (5, .long x_6), (7, .int (nI n))] → W p l e (rmD 1) s m args below meth c H locs 0 0 (MQ below (va_Qv (po_X1_weigh σ τ hr pa) (BU G) A) args s 0 0 A) (F0 m 46 ls []) := by
          intro F
          induction F with
          | zero => intro n s1 t1 hm; exact absurd hm (Nat.not_lt_zero _)
          | succ F ih_46 =>
            intro n s1 t1 hm_46 hi0_46 hi1_46 H locs ls hR hS hl
            have hnI := nI_T n (by omega)
            refine lv_iload hC.x hC.b dX1_weigh_46 (lv_at hl 4 rfl) ?_
            refine lv_bipush (v := 24) hC.x hC.b dX1_weigh_48 (by decide) ?_
            refine bi_ge (tgt := 84) (a := (n : Int)) (b := 24) hC.x hC.b (nI_T n (by omega)) rfl dX1_weigh_50 (by decide) (fun c_8 => ?_) (fun c_8 => ?_)
            · skip
              exact retv hC hK hR hS (by exact hi1_46) dX1_weigh_84
            · skip
              refine lv_aload_n hC.x hC.b dX1_weigh_53 rfl (lv_at hl 0 rfl) ?_
              refine rget hC hK hR (ct_closing G _ _) rfl uin_X1 2 (by decide) TF_X1_27 rfl dX1_weigh_54 ?_
              refine lv_iconst (v := 3) hC.x hC.b dX1_weigh_57 (by decide) ?_
              refine lv_iload_n hC.x hC.b dX1_weigh_58 rfl (lv_at hl 1 rfl) ?_
              refine lv_iload hC.x hC.b dX1_weigh_59 (lv_at hl 4 rfl) ?_
              refine lv_aload_n hC.x hC.b dX1_weigh_61 rfl (lv_at hl 0 rfl) ?_
              refine rget hC hK hR (ct_closing G _ _) rfl uin_X1 5 (by decide) TF_X1_9 rfl dX1_weigh_62 ?_
              refine lv_iload hC.x hC.b dX1_weigh_65 (lv_at hl 4 rfl) ?_
              refine ald hC hK hR (ct_fullWeights G _ _) (nI_T n (by omega)) (by omega) (by omega) (Int.toNat_natCast _) dX1_weigh_67 ?_
              refine lv_i2l hC.x hC.b dX1_weigh_68 rfl ?_
              refine lv_lload hC.x hC.b dX1_weigh_69 (lv_at hl 3 rfl) ?_
              have av_9 : ((s1 22 n).toInt64).toInt = (s1 22 n).toInt := (i2lI rfl)
              refine golp (runS (As := [.long ((s1 22 n).toInt64), .long x_6]) (rest := [.int (nI n), .int hr, .int (3 : Int32), .ref (G.2.1 5)]) hC hK hR hl.1 (c_J9_min_f86c9 l hG s1 t1 ((s1 22 n).toInt64) x_6 ) (call_b hC.ts TC_J9_min_f86c9 TN_J9 TM_X1_120 hd_J9_min_f86c9 ⟨Nat.le_of_ble_eq_true rfl, Nat.le_of_ble_eq_true rfl⟩) TT_J9_min_f86c9 rfl rfl (Nat.le_of_ble_eq_true rfl) dX1_weigh_71 ⟨Nat.le_of_ble_eq_true rfl, Nat.le_of_ble_eq_true rfl⟩) hS (fun v_10 H locs w_11 hR hS => ?_)
              have f_12 := w_11
              refine lv_l2i hC.x hC.b dX1_weigh_74 rfl ?_
              have av_13 : (3 : Int32).toInt = 3 := by decide
              have av_14 : (nI n).toInt = (n : Int) := (nI_T n (by omega))
              refine gov (runV (As := [.int (3 : Int32), .int hr, .int (nI n), .int v_10.toInt32]) (rest := []) hC hK hR hl.1 (c_X7_tell l hG s1 t1 (3 : Int32) hr (nI n) v_10.toInt32 ) (call_b hC.ts TC_X7_tell TN_X7 TM_X1_98 hd_X7_tell ⟨Nat.le_of_ble_eq_true rfl, Nat.le_of_ble_eq_true rfl⟩) TI_X7_tell TS_X7_tell (ct_told G _ _) rfl rfl rfl (Nat.le_of_ble_eq_true rfl) dX1_weigh_75 ⟨Nat.le_of_ble_eq_true rfl, Nat.le_of_ble_eq_true rfl⟩) hS (fun s_17 t_18 H locs w_16 hR hS => ?_)
              try dsimp only [po_X7_tell] at w_16
              have f_19 := w_16
              refine lv_iinc (v := nI (n + 1)) (lv' := [(7, .int (nI (n + 1))), (0, .ref (G.2.1 21)), (1, .int hr), (2, .int pa), (5, .long x_6)]) hC.x hC.b dX1_weigh_78 hl (k := 4) rfl (nI_succ _).symm (by decide) rfl (fun ls hl => ?_)
              refine lv_goto (tgt := 46) hC.x hC.b dX1_weigh_81 (by decide) ?_
              exact ih_46 (n + 1) s_17 t_18 (by omega) (by first | omega | assumption) (CF.tr hi1_46 f_19) _ _ _ hR hS (lv_sub hl [1, 2, 3, 4, 0] rfl)
        exact L_46 _ 0 σ τ (Nat.lt_succ_self _) (by first | omega | assumption) CF.rf _ _ _ hR hS (lv_sub hl [2, 3, 4, 1, 0] rfl)
      · skip
        refine lv_lload_n hC.x hC.b dX1_weigh_12 rfl (lv_at hl 3 rfl) ?_
        refine lv_aload_n hC.x hC.b dX1_weigh_13 rfl (lv_at hl 0 rfl) ?_
        refine rget hC hK hR (ct_closing G _ _) rfl uin_X1 5 (by decide) TF_X1_9 rfl dX1_weigh_14 ?_
        refine lv_iload hC.x hC.b dX1_weigh_17 (lv_at hl 4 rfl) ?_
        refine ald hC hK hR (ct_fullWeights G _ _) (nI_T n (by omega)) (by omega) (by omega) (Int.toNat_natCast _) dX1_weigh_19 ?_
        refine lv_i2l hC.x hC.b dX1_weigh_20 rfl ?_
        refine lv_ladd hC.x hC.b dX1_weigh_21 ?_
        refine lv_topl (fun x_20 ex_21 => ?_)
        refine lv_lstore_n (lv' := [(3, .long x_20), (0, .ref (G.2.1 21)), (1, .int hr), (2, .int pa), (5, .int (nI n))]) hC.x hC.b dX1_weigh_22 rfl hl (by decide) rfl (fun ls hl => ?_)
        refine lv_iinc (v := nI (n + 1)) (lv' := [(5, .int (nI (n + 1))), (3, .long x_20), (0, .ref (G.2.1 21)), (1, .int hr), (2, .int pa)]) hC.x hC.b dX1_weigh_23 hl (k := 4) rfl (nI_succ _).symm (by decide) rfl (fun ls hl => ?_)
        refine lv_goto (tgt := 5) hC.x hC.b dX1_weigh_26 (by decide) ?_
        exact ih_5 (n + 1) x_20 (by omega) (by first | omega | assumption) _ _ _ hR hS (lv_sub hl [2, 3, 4, 1, 0] rfl)
  exact L_5 _ 0 (0 : Int64) (Nat.lt_succ_self _) (by first | omega | assumption) _ _ _ hR hS (lv_sub hl [2, 3, 4, 1, 0] rfl)

abbrev po_X1_makePaper (σ : SI) (τ : SL) (hr : Int32) : Int64 → SI × SL → Prop := fun v u => ((CF σ u.1))
set_option maxRecDepth 100000 in
set_option maxHeartbeats 4000000 in
theorem c_X1_makePaper (l : Launch) {G : Gx} {A : Nat → Prop} (hG : GOk G A) (σ : SI) (τ : SL) (hr : Int32) : ML l G A 1 yX1_makePaper cX1_makePaper 9 (some .long) [.ref (G.2.1 21), .int hr] (σ, τ) (po_X1_makePaper σ τ hr) := by
  refine met_of (own := RX1) (by decide +kernel) rfl [(0, .ref (G.2.1 21)), (1, .int hr)] rfl (Nat.le_of_ble_eq_true rfl) ?_
  intro p e s m args below meth c ls hC hK hR hl
  have hS : va_S A s.heap s.heap [] := va_S.rf
  refine lv_lconst (v := 0) hC.x hC.b dX1_makePaper_0 (by decide) ?_
  refine lv_lstore_n (lv' := [(2, .long (0 : Int64)), (0, .ref (G.2.1 21)), (1, .int hr)]) hC.x hC.b dX1_makePaper_1 rfl hl (by decide) rfl (fun ls hl => ?_)
  refine lv_lconst (v := 0) hC.x hC.b dX1_makePaper_2 (by decide) ?_
  refine lv_lstore (lv' := [(4, .long (0 : Int64)), (2, .long (0 : Int64)), (0, .ref (G.2.1 21)), (1, .int hr)]) hC.x hC.b dX1_makePaper_3 hl (by decide) rfl (fun ls hl => ?_)
  refine lv_iconst (v := 0) hC.x hC.b dX1_makePaper_5 (by decide) ?_
  refine lv_istore (lv' := [(6, .int (0 : Int32)), (4, .long (0 : Int64)), (2, .long (0 : Int64)), (0, .ref (G.2.1 21)), (1, .int hr)]) hC.x hC.b dX1_makePaper_6 hl (by decide) rfl (fun ls hl => ?_)
  have L_8 : ∀ (F : Nat) (n : Nat) (x2 : Int64) (x4 : Int64), (24 - n) < F → (n ≤ 24) → ∀ (H : Heap) (locs : List Loc) (ls : Array Slot), RepH G σ τ H → va_S A s.heap H locs → lv_has ls 9 [(0, .ref (G.2.1 21)), (1, .int hr), (2, .long x2), (4, .long x4), (6, .int (nI n))] → W p l e (rmD 1) s m args below meth c H locs 0 0 (MQ below (va_Ql (po_X1_makePaper σ τ hr) (BU G) A) args s 0 0 A) (F0 m 8 ls []) := by
    intro F
    induction F with
    | zero => intro n x2 x4 hm; exact absurd hm (Nat.not_lt_zero _)
    | succ F ih_8 =>
      intro n x2 x4 hm_8 hi0_8 H locs ls hR hS hl
      refine lv_iload hC.x hC.b dX1_makePaper_8 (lv_at hl 4 rfl) ?_
      refine lv_bipush (v := 24) hC.x hC.b dX1_makePaper_10 (by decide) ?_
      refine bi_ge (tgt := 85) (a := (n : Int)) (b := 24) hC.x hC.b (nI_T n (by omega)) rfl dX1_makePaper_12 (by decide) (fun c_1 => ?_) (fun c_1 => ?_)
      · skip
        refine lv_aload_n hC.x hC.b dX1_makePaper_85 rfl (lv_at hl 0 rfl) ?_
        refine rget hC hK hR (ct_closing G _ _) rfl uin_X1 2 (by decide) TF_X1_27 rfl dX1_makePaper_86 ?_
        refine lv_iconst (v := 2) hC.x hC.b dX1_makePaper_89 (by decide) ?_
        refine lv_iload_n hC.x hC.b dX1_makePaper_90 rfl (lv_at hl 1 rfl) ?_
        refine lv_lload_n hC.x hC.b dX1_makePaper_91 rfl (lv_at hl 2 rfl) ?_
        refine lv_l2i hC.x hC.b dX1_makePaper_92 rfl ?_
        have av_2 : (2 : Int32).toInt = 2 := by decide
        refine gov (runV (As := [.int (2 : Int32), .int hr, .int x2.toInt32]) (rest := []) hC hK hR hl.1 (c_X7_tellPaper l hG σ τ (2 : Int32) hr x2.toInt32 ) (call_b hC.ts TC_X7_tellPaper TN_X7 TM_X1_67 hd_X7_tellPaper ⟨Nat.le_of_ble_eq_true rfl, Nat.le_of_ble_eq_true rfl⟩) TI_X7_tellPaper TS_X7_tellPaper (ct_told G _ _) rfl rfl rfl (Nat.le_of_ble_eq_true rfl) dX1_makePaper_93 ⟨Nat.le_of_ble_eq_true rfl, Nat.le_of_ble_eq_true rfl⟩) hS (fun s_5 t_6 H locs w_4 hR hS => ?_)
        try dsimp only [po_X7_tellPaper] at w_4
        have f_7 := w_4
        refine lv_aload_n hC.x hC.b dX1_makePaper_96 rfl (lv_at hl 0 rfl) ?_
        refine rget hC hK hR (ct_closing G _ _) rfl uin_X1 2 (by decide) TF_X1_27 rfl dX1_makePaper_97 ?_
        refine lv_iconst (v := 3) hC.x hC.b dX1_makePaper_100 (by decide) ?_
        refine lv_iload_n hC.x hC.b dX1_makePaper_101 rfl (lv_at hl 1 rfl) ?_
        refine lv_lload_n hC.x hC.b dX1_makePaper_102 rfl (lv_at hl 2 rfl) ?_
        refine lv_lconst (v := 0) hC.x hC.b dX1_makePaper_103 (by decide) ?_
        refine bl_le (tgt := 118) (a := x2.toInt) (b := 0) hC.x hC.b rfl rfl dX1_makePaper_104 dX1_makePaper_105 (by decide) (fun c_8 => ?_) (fun c_8 => ?_)
        · skip
          refine lv_iconst (v := 0) hC.x hC.b dX1_makePaper_118 (by decide) ?_
          have av_9 : (3 : Int32).toInt = 3 := by decide
          have av_10 : (0 : Int32).toInt = 0 := by decide
          refine gov (runV (As := [.int (3 : Int32), .int hr, .int (0 : Int32)]) (rest := []) hC hK hR hl.1 (c_X7_tellPaper l hG s_5 t_6 (3 : Int32) hr (0 : Int32) ) (call_b hC.ts TC_X7_tellPaper TN_X7 TM_X1_67 hd_X7_tellPaper ⟨Nat.le_of_ble_eq_true rfl, Nat.le_of_ble_eq_true rfl⟩) TI_X7_tellPaper TS_X7_tellPaper (ct_told G _ _) rfl rfl rfl (Nat.le_of_ble_eq_true rfl) dX1_makePaper_119 ⟨Nat.le_of_ble_eq_true rfl, Nat.le_of_ble_eq_true rfl⟩) hS (fun s_13 t_14 H locs w_12 hR hS => ?_)
          try dsimp only [po_X7_tellPaper] at w_12
          have f_15 := w_12
          refine lv_lload_n hC.x hC.b dX1_makePaper_122 rfl (lv_at hl 2 rfl) ?_
          refine lv_lconst (v := 0) hC.x hC.b dX1_makePaper_123 (by decide) ?_
          refine bl_le (tgt := 137) (a := x2.toInt) (b := 0) hC.x hC.b rfl rfl dX1_makePaper_124 dX1_makePaper_125 (by decide) (fun c_16 => ?_) (fun c_16 => ?_)
          · skip
            refine lv_lconst (v := 0) hC.x hC.b dX1_makePaper_137 (by decide) ?_
            exact retl hC hK hR hS (by exact (CF.tr (CF.tr CF.rf f_7) f_15)) dX1_makePaper_138
          · skip
            refine lv_lload hC.x hC.b dX1_makePaper_128 (lv_at hl 3 rfl) ?_
            refine lv_lload_n hC.x hC.b dX1_makePaper_130 rfl (lv_at hl 2 rfl) ?_
            refine golp (runS (As := [.long x4, .long x2]) (rest := []) hC hK hR hl.1 (c_J9_floorDiv_f86c9 l hG s_13 t_14 x4 x2 (by omega)) (call_b hC.ts TC_J9_floorDiv_f86c9 TN_J9 TM_X1_131 hd_J9_floorDiv_f86c9 ⟨Nat.le_of_ble_eq_true rfl, Nat.le_of_ble_eq_true rfl⟩) TT_J9_floorDiv_f86c9 rfl rfl (Nat.le_of_ble_eq_true rfl) dX1_makePaper_131 ⟨Nat.le_of_ble_eq_true rfl, Nat.le_of_ble_eq_true rfl⟩) hS (fun v_17 H locs w_18 hR hS => ?_)
            refine lv_goto (tgt := 138) hC.x hC.b dX1_makePaper_134 (by decide) ?_
            exact retl hC hK hR hS (by exact (CF.tr (CF.tr CF.rf f_7) f_15)) dX1_makePaper_138
        · skip
          refine lv_lload hC.x hC.b dX1_makePaper_108 (lv_at hl 3 rfl) ?_
          refine lv_lload_n hC.x hC.b dX1_makePaper_110 rfl (lv_at hl 2 rfl) ?_
          refine golp (runS (As := [.long x4, .long x2]) (rest := [.int hr, .int (3 : Int32), .ref (G.2.1 5)]) hC hK hR hl.1 (c_J9_floorMod_f86c9 l hG s_5 t_6 x4 x2 (by omega)) (call_b hC.ts TC_J9_floorMod_f86c9 TN_J9 TM_X1_128 hd_J9_floorMod_f86c9 ⟨Nat.le_of_ble_eq_true rfl, Nat.le_of_ble_eq_true rfl⟩) TT_J9_floorMod_f86c9 rfl rfl (Nat.le_of_ble_eq_true rfl) dX1_makePaper_111 ⟨Nat.le_of_ble_eq_true rfl, Nat.le_of_ble_eq_true rfl⟩) hS (fun v_19 H locs w_20 hR hS => ?_)
          refine lv_l2i hC.x hC.b dX1_makePaper_114 rfl ?_
          refine lv_goto (tgt := 119) hC.x hC.b dX1_makePaper_115 (by decide) ?_
          have av_21 : (3 : Int32).toInt = 3 := by decide
          refine gov (runV (As := [.int (3 : Int32), .int hr, .int v_19.toInt32]) (rest := []) hC hK hR hl.1 (c_X7_tellPaper l hG s_5 t_6 (3 : Int32) hr v_19.toInt32 ) (call_b hC.ts TC_X7_tellPaper TN_X7 TM_X1_67 hd_X7_tellPaper ⟨Nat.le_of_ble_eq_true rfl, Nat.le_of_ble_eq_true rfl⟩) TI_X7_tellPaper TS_X7_tellPaper (ct_told G _ _) rfl rfl rfl (Nat.le_of_ble_eq_true rfl) dX1_makePaper_119 ⟨Nat.le_of_ble_eq_true rfl, Nat.le_of_ble_eq_true rfl⟩) hS (fun s_24 t_25 H locs w_23 hR hS => ?_)
          try dsimp only [po_X7_tellPaper] at w_23
          have f_26 := w_23
          refine lv_lload_n hC.x hC.b dX1_makePaper_122 rfl (lv_at hl 2 rfl) ?_
          refine lv_lconst (v := 0) hC.x hC.b dX1_makePaper_123 (by decide) ?_
          refine bl_le (tgt := 137) (a := x2.toInt) (b := 0) hC.x hC.b rfl rfl dX1_makePaper_124 dX1_makePaper_125 (by decide) (fun c_27 => ?_) (fun c_27 => ?_)
          · skip
            refine lv_lconst (v := 0) hC.x hC.b dX1_makePaper_137 (by decide) ?_
            exact retl hC hK hR hS (by exact (CF.tr (CF.tr CF.rf f_7) f_26)) dX1_makePaper_138
          · skip
            refine lv_lload hC.x hC.b dX1_makePaper_128 (lv_at hl 3 rfl) ?_
            refine lv_lload_n hC.x hC.b dX1_makePaper_130 rfl (lv_at hl 2 rfl) ?_
            refine golp (runS (As := [.long x4, .long x2]) (rest := []) hC hK hR hl.1 (c_J9_floorDiv_f86c9 l hG s_24 t_25 x4 x2 (by omega)) (call_b hC.ts TC_J9_floorDiv_f86c9 TN_J9 TM_X1_131 hd_J9_floorDiv_f86c9 ⟨Nat.le_of_ble_eq_true rfl, Nat.le_of_ble_eq_true rfl⟩) TT_J9_floorDiv_f86c9 rfl rfl (Nat.le_of_ble_eq_true rfl) dX1_makePaper_131 ⟨Nat.le_of_ble_eq_true rfl, Nat.le_of_ble_eq_true rfl⟩) hS (fun v_28 H locs w_29 hR hS => ?_)
            refine lv_goto (tgt := 138) hC.x hC.b dX1_makePaper_134 (by decide) ?_
            exact retl hC hK hR hS (by exact (CF.tr (CF.tr CF.rf f_7) f_26)) dX1_makePaper_138
      · skip
        refine lv_aload_n hC.x hC.b dX1_makePaper_15 rfl (lv_at hl 0 rfl) ?_
        refine rget hC hK hR (ct_closing G _ _) rfl uin_X1 2 (by decide) TF_X1_27 rfl dX1_makePaper_16 ?_
        refine lv_iconst (v := 3) hC.x hC.b dX1_makePaper_19 (by decide) ?_
        refine lv_iload_n hC.x hC.b dX1_makePaper_20 rfl (lv_at hl 1 rfl) ?_
        refine lv_iload hC.x hC.b dX1_makePaper_21 (lv_at hl 4 rfl) ?_
        have av_30 : (3 : Int32).toInt = 3 := by decide
        have av_31 : (nI n).toInt = (n : Int) := (nI_T n (by omega))
        refine goip (runV (As := [.int (3 : Int32), .int hr, .int (nI n)]) (rest := []) hC hK hR hl.1 (c_X7_ofClock l hG σ τ (3 : Int32) hr (nI n) ) (call_b hC.ts TC_X7_ofClock TN_X7 TM_X1_123 hd_X7_ofClock ⟨Nat.le_of_ble_eq_true rfl, Nat.le_of_ble_eq_true rfl⟩) TI_X7_ofClock TS_X7_ofClock (ct_told G _ _) rfl rfl rfl (Nat.le_of_ble_eq_true rfl) dX1_makePaper_23 ⟨Nat.le_of_ble_eq_true rfl, Nat.le_of_ble_eq_true rfl⟩) hS (fun v_32 H locs w_33 hR hS => ?_)
        refine lv_istore (lv' := [(7, .int v_32), (0, .ref (G.2.1 21)), (1, .int hr), (2, .long x2), (4, .long x4), (6, .int (nI n))]) hC.x hC.b dX1_makePaper_26 hl (by decide) rfl (fun ls hl => ?_)
        refine lv_aload_n hC.x hC.b dX1_makePaper_28 rfl (lv_at hl 1 rfl) ?_
        refine rget hC hK hR (ct_closing G _ _) rfl uin_X1 2 (by decide) TF_X1_27 rfl dX1_makePaper_29 ?_
        refine lv_iconst (v := 1) hC.x hC.b dX1_makePaper_32 (by decide) ?_
        refine lv_iload_n hC.x hC.b dX1_makePaper_33 rfl (lv_at hl 2 rfl) ?_
        refine lv_iload hC.x hC.b dX1_makePaper_34 (lv_at hl 5 rfl) ?_
        have av_34 : (1 : Int32).toInt = 1 := by decide
        have av_35 : (nI n).toInt = (n : Int) := (nI_T n (by omega))
        refine goip (runV (As := [.int (1 : Int32), .int hr, .int (nI n)]) (rest := []) hC hK hR hl.1 (c_X7_ofClock l hG σ τ (1 : Int32) hr (nI n) ) (call_b hC.ts TC_X7_ofClock TN_X7 TM_X1_123 hd_X7_ofClock ⟨Nat.le_of_ble_eq_true rfl, Nat.le_of_ble_eq_true rfl⟩) TI_X7_ofClock TS_X7_ofClock (ct_told G _ _) rfl rfl rfl (Nat.le_of_ble_eq_true rfl) dX1_makePaper_36 ⟨Nat.le_of_ble_eq_true rfl, Nat.le_of_ble_eq_true rfl⟩) hS (fun v_36 H locs w_37 hR hS => ?_)
        refine lv_istore (lv' := [(8, .int v_36), (7, .int v_32), (0, .ref (G.2.1 21)), (1, .int hr), (2, .long x2), (4, .long x4), (6, .int (nI n))]) hC.x hC.b dX1_makePaper_39 hl (by decide) rfl (fun ls hl => ?_)
        refine lv_iload hC.x hC.b dX1_makePaper_41 (lv_at hl 0 rfl) ?_
        refine lv_ldc hC.x hC.b hC.ow (hC.ts _ TK_X1_127) dX1_makePaper_43 ?_
        refine bi_eq (tgt := 79) (a := v_36.toInt) (b := 2000000000) hC.x hC.b rfl rfl dX1_makePaper_45 (by decide) (fun c_38 => ?_) (fun c_38 => ?_)
        · skip
          refine lv_iinc (v := nI (n + 1)) (lv' := [(6, .int (nI (n + 1))), (8, .int v_36), (7, .int v_32), (0, .ref (G.2.1 21)), (1, .int hr), (2, .long x2), (4, .long x4)]) hC.x hC.b dX1_makePaper_79 hl (k := 6) rfl (nI_succ _).symm (by decide) rfl (fun ls hl => ?_)
          refine lv_goto (tgt := 8) hC.x hC.b dX1_makePaper_82 (by decide) ?_
          exact ih_8 (n + 1) x2 x4 (by omega) (by first | omega | assumption) _ _ _ hR hS (lv_sub hl [3, 4, 5, 6, 0] rfl)
        · skip
          refine lv_lload_n hC.x hC.b dX1_makePaper_48 rfl (lv_at hl 4 rfl) ?_
          refine lv_iload hC.x hC.b dX1_makePaper_49 (lv_at hl 1 rfl) ?_
          refine lv_i2l hC.x hC.b dX1_makePaper_51 rfl ?_
          refine lv_ladd hC.x hC.b dX1_makePaper_52 ?_
          refine lv_lstore_n (lv' := [(2, .long (x2 + v_32.toInt64)), (8, .int v_36), (7, .int v_32), (0, .ref (G.2.1 21)), (1, .int hr), (4, .long x4), (6, .int (nI n))]) hC.x hC.b dX1_makePaper_53 rfl hl (by decide) rfl (fun ls hl => ?_)
          refine lv_lload hC.x hC.b dX1_makePaper_54 (lv_at hl 5 rfl) ?_
          refine lv_iload hC.x hC.b dX1_makePaper_56 (lv_at hl 2 rfl) ?_
          refine lv_i2l hC.x hC.b dX1_makePaper_58 rfl ?_
          refine lv_iload hC.x hC.b dX1_makePaper_59 (lv_at hl 1 rfl) ?_
          refine lv_i2l hC.x hC.b dX1_makePaper_61 rfl ?_
          refine lv_aload_n hC.x hC.b dX1_makePaper_62 rfl (lv_at hl 3 rfl) ?_
          refine rget hC hK hR (ct_closing G _ _) rfl uin_X1 2 (by decide) TF_X1_27 rfl dX1_makePaper_63 ?_
          refine lv_iconst (v := 4) hC.x hC.b dX1_makePaper_66 (by decide) ?_
          refine lv_iload_n hC.x hC.b dX1_makePaper_67 rfl (lv_at hl 4 rfl) ?_
          refine lv_iload hC.x hC.b dX1_makePaper_68 (lv_at hl 6 rfl) ?_
          have av_39 : (4 : Int32).toInt = 4 := by decide
          have av_40 : (nI n).toInt = (n : Int) := (nI_T n (by omega))
          refine goip (runV (As := [.int (4 : Int32), .int hr, .int (nI n)]) (rest := [.long v_36.toInt64, .long v_32.toInt64, .long x4]) hC hK hR hl.1 (c_X7_ofClock l hG σ τ (4 : Int32) hr (nI n) ) (call_b hC.ts TC_X7_ofClock TN_X7 TM_X1_123 hd_X7_ofClock ⟨Nat.le_of_ble_eq_true rfl, Nat.le_of_ble_eq_true rfl⟩) TI_X7_ofClock TS_X7_ofClock (ct_told G _ _) rfl rfl rfl (Nat.le_of_ble_eq_true rfl) dX1_makePaper_70 ⟨Nat.le_of_ble_eq_true rfl, Nat.le_of_ble_eq_true rfl⟩) hS (fun v_41 H locs w_42 hR hS => ?_)
          refine lv_i2l hC.x hC.b dX1_makePaper_73 rfl ?_
          refine lv_ladd hC.x hC.b dX1_makePaper_74 ?_
          refine lv_lmul hC.x hC.b dX1_makePaper_75 ?_
          refine lv_ladd hC.x hC.b dX1_makePaper_76 ?_
          refine lv_topl (fun x_43 ex_44 => ?_)
          refine lv_lstore (lv' := [(4, .long x_43), (2, .long (x2 + v_32.toInt64)), (8, .int v_36), (7, .int v_32), (0, .ref (G.2.1 21)), (1, .int hr), (6, .int (nI n))]) hC.x hC.b dX1_makePaper_77 hl (by decide) rfl (fun ls hl => ?_)
          refine lv_iinc (v := nI (n + 1)) (lv' := [(6, .int (nI (n + 1))), (4, .long x_43), (2, .long (x2 + v_32.toInt64)), (8, .int v_36), (7, .int v_32), (0, .ref (G.2.1 21)), (1, .int hr)]) hC.x hC.b dX1_makePaper_79 hl (k := 6) rfl (nI_succ _).symm (by decide) rfl (fun ls hl => ?_)
          refine lv_goto (tgt := 8) hC.x hC.b dX1_makePaper_82 (by decide) ?_
          exact ih_8 (n + 1) (x2 + v_32.toInt64) x_43 (by omega) (by first | omega | assumption) _ _ _ hR hS (lv_sub hl [5, 6, 2, 1, 0] rfl)
  exact L_8 _ 0 (0 : Int64) (0 : Int64) (Nat.lt_succ_self _) (by first | omega | assumption) _ _ _ hR hS (lv_sub hl [3, 4, 2, 1, 0] rfl)

abbrev po_X1_tellXs (σ : SI) (τ : SL) (hr : Int32) (xr : Int64) : SI × SL → Prop := fun u => ((CF σ u.1))
set_option maxRecDepth 100000 in
set_option maxHeartbeats 4000000 in
theorem c_X1_tellXs (l : Launch) {G : Gx} {A : Nat → Prop} (hG : GOk G A) (σ : SI) (τ : SL) (hr : Int32) (xr : Int64) : MV l G A 2 yX1_tellXs cX1_tellXs 9 none [.ref (G.2.1 21), .int hr, .long xr] (σ, τ) (po_X1_tellXs σ τ hr xr) := by
  refine met_of (own := RX1) (by decide +kernel) rfl [(0, .ref (G.2.1 21)), (1, .int hr), (2, .long xr)] rfl (Nat.le_of_ble_eq_true rfl) ?_
  intro p e s m args below meth c ls hC hK hR hl
  have hS : va_S A s.heap s.heap [] := va_S.rf
  refine lv_iconst (v := 0) hC.x hC.b dX1_tellXs_0 (by decide) ?_
  refine lv_istore (lv' := [(4, .int (0 : Int32)), (0, .ref (G.2.1 21)), (1, .int hr), (2, .long xr)]) hC.x hC.b dX1_tellXs_1 hl (by decide) rfl (fun ls hl => ?_)
  have L_3 : ∀ (F : Nat) (n : Nat) (s1 : SI) (t1 : SL), (24 - n) < F → (n ≤ 24) → (CF σ s1) → ∀ (H : Heap) (locs : List Loc) (ls : Array Slot), RepH G s1 t1 H → va_S A s.heap H locs → lv_has ls 9 [(0, .ref (G.2.1 21)), (1, .int hr), (2, .long xr), (4, .int (nI n))] → W p l e (rmD 2) s m args below meth c H locs 0 0 (MQ below (va_Qv (po_X1_tellXs σ τ hr xr) (BU G) A) args s 0 0 A) (F0 m 3 ls []) := by
    intro F
    induction F with
    | zero => intro n s1 t1 hm; exact absurd hm (Nat.not_lt_zero _)
    | succ F ih_3 =>
      intro n s1 t1 hm_3 hi0_3 hi1_3 H locs ls hR hS hl
      have hnI := nI_T n (by omega)
      refine lv_iload hC.x hC.b dX1_tellXs_3 (lv_at hl 3 rfl) ?_
      refine lv_bipush (v := 24) hC.x hC.b dX1_tellXs_5 (by decide) ?_
      refine bi_ge (tgt := 103) (a := (n : Int)) (b := 24) hC.x hC.b (nI_T n (by omega)) rfl dX1_tellXs_7 (by decide) (fun c_1 => ?_) (fun c_1 => ?_)
      · skip
        exact retv hC hK hR hS (by exact hi1_3) dX1_tellXs_103
      · skip
        refine lv_aload_n hC.x hC.b dX1_tellXs_10 rfl (lv_at hl 0 rfl) ?_
        refine rget hC hK hR (ct_closing G _ _) rfl uin_X1 2 (by decide) TF_X1_27 rfl dX1_tellXs_11 ?_
        refine lv_iconst (v := 4) hC.x hC.b dX1_tellXs_14 (by decide) ?_
        refine lv_iload_n hC.x hC.b dX1_tellXs_15 rfl (lv_at hl 1 rfl) ?_
        refine lv_iload hC.x hC.b dX1_tellXs_16 (lv_at hl 3 rfl) ?_
        have av_2 : (4 : Int32).toInt = 4 := by decide
        have av_3 : (nI n).toInt = (n : Int) := (nI_T n (by omega))
        refine goip (runV (As := [.int (4 : Int32), .int hr, .int (nI n)]) (rest := []) hC hK hR hl.1 (c_X7_ofClock l hG s1 t1 (4 : Int32) hr (nI n) ) (call_b hC.ts TC_X7_ofClock TN_X7 TM_X1_123 hd_X7_ofClock ⟨Nat.le_of_ble_eq_true rfl, Nat.le_of_ble_eq_true rfl⟩) TI_X7_ofClock TS_X7_ofClock (ct_told G _ _) rfl rfl rfl (Nat.le_of_ble_eq_true rfl) dX1_tellXs_18 ⟨Nat.le_of_ble_eq_true rfl, Nat.le_of_ble_eq_true rfl⟩) hS (fun v_4 H locs w_5 hR hS => ?_)
        refine lv_istore (lv' := [(5, .int v_4), (0, .ref (G.2.1 21)), (1, .int hr), (2, .long xr), (4, .int (nI n))]) hC.x hC.b dX1_tellXs_21 hl (by decide) rfl (fun ls hl => ?_)
        refine lv_iload hC.x hC.b dX1_tellXs_23 (lv_at hl 0 rfl) ?_
        refine lv_ldc hC.x hC.b hC.ow (hC.ts _ TK_X1_127) dX1_tellXs_25 ?_
        refine bi_ne (tgt := 33) (a := v_4.toInt) (b := 2000000000) hC.x hC.b rfl rfl dX1_tellXs_27 (by decide) (fun c_6 => ?_) (fun c_6 => ?_)
        · skip
          refine lv_lload_n hC.x hC.b dX1_tellXs_33 rfl (lv_at hl 3 rfl) ?_
          refine lv_iload hC.x hC.b dX1_tellXs_34 (lv_at hl 0 rfl) ?_
          refine lv_i2l hC.x hC.b dX1_tellXs_36 rfl ?_
          refine lv_lsub hC.x hC.b dX1_tellXs_37 ?_
          refine lv_lstore (lv' := [(6, .long (xr - v_4.toInt64)), (5, .int v_4), (0, .ref (G.2.1 21)), (1, .int hr), (2, .long xr), (4, .int (nI n))]) hC.x hC.b dX1_tellXs_38 hl (by decide) rfl (fun ls hl => ?_)
          refine lv_aload_n hC.x hC.b dX1_tellXs_40 rfl (lv_at hl 2 rfl) ?_
          refine rget hC hK hR (ct_closing G _ _) rfl uin_X1 2 (by decide) TF_X1_27 rfl dX1_tellXs_41 ?_
          refine lv_iconst (v := 1) hC.x hC.b dX1_tellXs_44 (by decide) ?_
          refine lv_iload_n hC.x hC.b dX1_tellXs_45 rfl (lv_at hl 3 rfl) ?_
          refine lv_iload hC.x hC.b dX1_tellXs_46 (lv_at hl 5 rfl) ?_
          have av_7 : (1 : Int32).toInt = 1 := by decide
          have av_8 : (nI n).toInt = (n : Int) := (nI_T n (by omega))
          refine goip (runV (As := [.int (1 : Int32), .int hr, .int (nI n)]) (rest := []) hC hK hR hl.1 (c_X7_ofClock l hG s1 t1 (1 : Int32) hr (nI n) ) (call_b hC.ts TC_X7_ofClock TN_X7 TM_X1_123 hd_X7_ofClock ⟨Nat.le_of_ble_eq_true rfl, Nat.le_of_ble_eq_true rfl⟩) TI_X7_ofClock TS_X7_ofClock (ct_told G _ _) rfl rfl rfl (Nat.le_of_ble_eq_true rfl) dX1_tellXs_48 ⟨Nat.le_of_ble_eq_true rfl, Nat.le_of_ble_eq_true rfl⟩) hS (fun v_9 H locs w_10 hR hS => ?_)
          refine lv_istore (lv' := [(8, .int v_9), (6, .long (xr - v_4.toInt64)), (5, .int v_4), (0, .ref (G.2.1 21)), (1, .int hr), (2, .long xr), (4, .int (nI n))]) hC.x hC.b dX1_tellXs_51 hl (by decide) rfl (fun ls hl => ?_)
          refine lv_aload_n hC.x hC.b dX1_tellXs_53 rfl (lv_at hl 3 rfl) ?_
          refine rget hC hK hR (ct_closing G _ _) rfl uin_X1 2 (by decide) TF_X1_27 rfl dX1_tellXs_54 ?_
          refine lv_iconst (v := 0) hC.x hC.b dX1_tellXs_57 (by decide) ?_
          refine lv_iload_n hC.x hC.b dX1_tellXs_58 rfl (lv_at hl 4 rfl) ?_
          refine lv_iload hC.x hC.b dX1_tellXs_59 (lv_at hl 6 rfl) ?_
          refine lv_lload hC.x hC.b dX1_tellXs_61 (lv_at hl 1 rfl) ?_
          refine lv_l2i hC.x hC.b dX1_tellXs_63 rfl ?_
          have av_11 : (0 : Int32).toInt = 0 := by decide
          have av_12 : (nI n).toInt = (n : Int) := (nI_T n (by omega))
          refine gov (runV (As := [.int (0 : Int32), .int hr, .int (nI n), .int ((xr - v_4.toInt64).toInt32)]) (rest := []) hC hK hR hl.1 (c_X7_tell l hG s1 t1 (0 : Int32) hr (nI n) ((xr - v_4.toInt64).toInt32) ) (call_b hC.ts TC_X7_tell TN_X7 TM_X1_98 hd_X7_tell ⟨Nat.le_of_ble_eq_true rfl, Nat.le_of_ble_eq_true rfl⟩) TI_X7_tell TS_X7_tell (ct_told G _ _) rfl rfl rfl (Nat.le_of_ble_eq_true rfl) dX1_tellXs_64 ⟨Nat.le_of_ble_eq_true rfl, Nat.le_of_ble_eq_true rfl⟩) hS (fun s_15 t_16 H locs w_14 hR hS => ?_)
          try dsimp only [po_X7_tell] at w_14
          have f_17 := w_14
          refine lv_iload hC.x hC.b dX1_tellXs_67 (lv_at hl 0 rfl) ?_
          refine lv_ldc hC.x hC.b hC.ow (hC.ts _ TK_X1_127) dX1_tellXs_69 ?_
          refine bi_eq (tgt := 97) (a := v_9.toInt) (b := 2000000000) hC.x hC.b rfl rfl dX1_tellXs_71 (by decide) (fun c_18 => ?_) (fun c_18 => ?_)
          · skip
            refine lv_iinc (v := nI (n + 1)) (lv' := [(4, .int (nI (n + 1))), (8, .int v_9), (6, .long (xr - v_4.toInt64)), (5, .int v_4), (0, .ref (G.2.1 21)), (1, .int hr), (2, .long xr)]) hC.x hC.b dX1_tellXs_97 hl (k := 6) rfl (nI_succ _).symm (by decide) rfl (fun ls hl => ?_)
            refine lv_goto (tgt := 3) hC.x hC.b dX1_tellXs_100 (by decide) ?_
            exact ih_3 (n + 1) s_15 t_16 (by omega) (by first | omega | assumption) (CF.tr hi1_3 f_17) _ _ _ hR hS (lv_sub hl [4, 5, 6, 0] rfl)
          · skip
            refine lv_aload_n hC.x hC.b dX1_tellXs_74 rfl (lv_at hl 3 rfl) ?_
            refine rget hC hK hR (ct_closing G _ _) rfl uin_X1 2 (by decide) TF_X1_27 rfl dX1_tellXs_75 ?_
            refine lv_iconst (v := 2) hC.x hC.b dX1_tellXs_78 (by decide) ?_
            refine lv_iload_n hC.x hC.b dX1_tellXs_79 rfl (lv_at hl 4 rfl) ?_
            refine lv_iload hC.x hC.b dX1_tellXs_80 (lv_at hl 6 rfl) ?_
            refine lv_lload hC.x hC.b dX1_tellXs_82 (lv_at hl 1 rfl) ?_
            refine lv_iload hC.x hC.b dX1_tellXs_84 (lv_at hl 0 rfl) ?_
            refine lv_i2l hC.x hC.b dX1_tellXs_86 rfl ?_
            refine lv_lsub hC.x hC.b dX1_tellXs_87 ?_
            refine lv_sipush (v := 30000) hC.x hC.b dX1_tellXs_88 (by decide) ?_
            have av_19 : (30000 : Int32).toInt = 30000 := by decide
            refine goip (runSN (As := [.long ((xr - v_4.toInt64) - v_9.toInt64), .int (30000 : Int32)]) (rest := [.int (nI n), .int hr, .int (2 : Int32), .ref (G.2.1 5)]) hC hK hR hl.1 (c_X9_cut l hG s_15 t_16 ((xr - v_4.toInt64) - v_9.toInt64) (30000 : Int32) (by first | decide | omega)) (call_n hC.ts TC_X9_cut TN_X9 hK.2.2.2.2.2.2.2 hd_X9_cut ⟨Nat.le_of_ble_eq_true rfl, Nat.le_of_ble_eq_true rfl⟩) TT_X9_cut rfl rfl (Nat.le_of_ble_eq_true rfl) dX1_tellXs_91 ⟨Nat.le_of_ble_eq_true rfl, Nat.le_of_ble_eq_true rfl⟩) hS (fun v_20 H locs w_21 hR hS => ?_)
            have f_22 := w_21
            have av_23 : (2 : Int32).toInt = 2 := by decide
            have av_24 : (nI n).toInt = (n : Int) := (nI_T n (by omega))
            refine gov (runV (As := [.int (2 : Int32), .int hr, .int (nI n), .int v_20]) (rest := []) hC hK hR hl.1 (c_X7_tell l hG s_15 t_16 (2 : Int32) hr (nI n) v_20 ) (call_b hC.ts TC_X7_tell TN_X7 TM_X1_98 hd_X7_tell ⟨Nat.le_of_ble_eq_true rfl, Nat.le_of_ble_eq_true rfl⟩) TI_X7_tell TS_X7_tell (ct_told G _ _) rfl rfl rfl (Nat.le_of_ble_eq_true rfl) dX1_tellXs_94 ⟨Nat.le_of_ble_eq_true rfl, Nat.le_of_ble_eq_true rfl⟩) hS (fun s_27 t_28 H locs w_26 hR hS => ?_)
            try dsimp only [po_X7_tell] at w_26
            have f_29 := w_26
            refine lv_iinc (v := nI (n + 1)) (lv' := [(4, .int (nI (n + 1))), (8, .int v_9), (6, .long (xr - v_4.toInt64)), (5, .int v_4), (0, .ref (G.2.1 21)), (1, .int hr), (2, .long xr)]) hC.x hC.b dX1_tellXs_97 hl (k := 6) rfl (nI_succ _).symm (by decide) rfl (fun ls hl => ?_)
            refine lv_goto (tgt := 3) hC.x hC.b dX1_tellXs_100 (by decide) ?_
            exact ih_3 (n + 1) s_27 t_28 (by omega) (by first | omega | assumption) (CF.tr (CF.tr hi1_3 f_17) f_29) _ _ _ hR hS (lv_sub hl [4, 5, 6, 0] rfl)
        · skip
          refine lv_goto (tgt := 97) hC.x hC.b dX1_tellXs_30 (by decide) ?_
          refine lv_iinc (v := nI (n + 1)) (lv' := [(4, .int (nI (n + 1))), (5, .int v_4), (0, .ref (G.2.1 21)), (1, .int hr), (2, .long xr)]) hC.x hC.b dX1_tellXs_97 hl (k := 4) rfl (nI_succ _).symm (by decide) rfl (fun ls hl => ?_)
          refine lv_goto (tgt := 3) hC.x hC.b dX1_tellXs_100 (by decide) ?_
          exact ih_3 (n + 1) s1 t1 (by omega) (by first | omega | assumption) hi1_3 _ _ _ hR hS (lv_sub hl [2, 3, 4, 0] rfl)
  exact L_3 _ 0 σ τ (Nat.lt_succ_self _) (by first | omega | assumption) CF.rf _ _ _ hR hS (lv_sub hl [1, 2, 3, 0] rfl)

abbrev po_X1_judgeSuspect (σ : SI) (τ : SL) (cq : Nat) (hr : Int32) (ma : Int32) : SI × SL → Prop := fun u => ((CF σ u.1))
set_option maxRecDepth 100000 in
set_option maxHeartbeats 4000000 in
theorem c_X1_judgeSuspect (l : Launch) {G : Gx} {A : Nat → Prop} (hG : GOk G A) (σ : SI) (τ : SL) (cq : Nat) (hcq : cq < 24) (hr : Int32) (ma : Int32) (hhr : 0 ≤ hr.toInt ∧ hr.toInt ≤ 200) : MV l G A 2 yX1_judgeSuspect cX1_judgeSuspect 6 none [.ref (G.2.1 21), .ref (G.2.1 (80 + cq)), .int hr, .int ma] (σ, τ) (po_X1_judgeSuspect σ τ cq hr ma) := by
  refine met_of (own := RX1) (by decide +kernel) rfl [(0, .ref (G.2.1 21)), (1, .ref (G.2.1 (80 + cq))), (2, .int hr), (3, .int ma)] rfl (Nat.le_of_ble_eq_true rfl) ?_
  intro p e s m args below meth c ls hC hK hR hl
  have hS : va_S A s.heap s.heap [] := va_S.rf
  refine lv_aload_n hC.x hC.b dX1_judgeSuspect_0 rfl (lv_at hl 0 rfl) ?_
  refine rget hC hK hR (ct_closing G _ _) rfl uin_X1 3 (by decide) TF_X1_31 rfl dX1_judgeSuspect_1 ?_
  refine lv_aload_n hC.x hC.b dX1_judgeSuspect_4 rfl (lv_at hl 1 rfl) ?_
  refine lv_iload_n hC.x hC.b dX1_judgeSuspect_5 rfl (lv_at hl 2 rfl) ?_
  refine lv_iconst (v := 1) hC.x hC.b dX1_judgeSuspect_6 (by decide) ?_
  refine lv_isub hC.x hC.b dX1_judgeSuspect_7 ?_
  refine goip (runV (As := [.ref (G.2.1 (80 + cq)), .int (hr - (1 : Int32))]) (rest := []) hC hK hR hl.1 (c_X2_missedOf l hG σ τ cq hcq (hr - (1 : Int32)) ) (call_b hC.ts TC_X2_missedOf TN_X2 TM_X1_166 hd_X2_missedOf ⟨Nat.le_of_ble_eq_true rfl, Nat.le_of_ble_eq_true rfl⟩) TI_X2_missedOf TS_X2_missedOf (ct_fore G _ _) rfl rfl rfl (Nat.le_of_ble_eq_true rfl) dX1_judgeSuspect_8 ⟨Nat.le_of_ble_eq_true rfl, Nat.le_of_ble_eq_true rfl⟩) hS (fun v_1 H locs w_2 hR hS => ?_)
  refine lv_istore (lv' := [(4, .int v_1), (0, .ref (G.2.1 21)), (1, .ref (G.2.1 (80 + cq))), (2, .int hr), (3, .int ma)]) hC.x hC.b dX1_judgeSuspect_11 hl (by decide) rfl (fun ls hl => ?_)
  refine lv_iload hC.x hC.b dX1_judgeSuspect_13 (lv_at hl 0 rfl) ?_
  refine lv_iload_n hC.x hC.b dX1_judgeSuspect_15 rfl (lv_at hl 4 rfl) ?_
  refine goip (runS (As := [.int v_1, .int ma]) (rest := []) hC hK hR hl.1 (c_X2_haveOneSign l hG σ τ v_1 ma ) (call_b hC.ts TC_X2_haveOneSign TN_X2 TM_X1_169 hd_X2_haveOneSign ⟨Nat.le_of_ble_eq_true rfl, Nat.le_of_ble_eq_true rfl⟩) TT_X2_haveOneSign rfl rfl (Nat.le_of_ble_eq_true rfl) dX1_judgeSuspect_16 ⟨Nat.le_of_ble_eq_true rfl, Nat.le_of_ble_eq_true rfl⟩) hS (fun v_3 H locs w_4 hR hS => ?_)
  rcases w_4 with rfl | rfl
  · skip
    refine bz_eq (tgt := 42) (a := 1) (b := 0) hC.x hC.b rfl rfl dX1_judgeSuspect_19 (by decide) (fun c_5 => absurd c_5 (by decide)) (fun _ => ?_)
    refine lv_iload_n hC.x hC.b dX1_judgeSuspect_22 rfl (lv_at hl 4 rfl) ?_
    refine goip (runS (As := [.int ma]) (rest := []) hC hK hR hl.1 (c_J9_abs_0f7a4 l hG σ τ ma ) (call_b hC.ts TC_J9_abs_0f7a4 TN_J9 TM_X1_159 hd_J9_abs_0f7a4 ⟨Nat.le_of_ble_eq_true rfl, Nat.le_of_ble_eq_true rfl⟩) TT_J9_abs_0f7a4 rfl rfl (Nat.le_of_ble_eq_true rfl) dX1_judgeSuspect_23 ⟨Nat.le_of_ble_eq_true rfl, Nat.le_of_ble_eq_true rfl⟩) hS (fun v_6 H locs w_7 hR hS => ?_)
    have f_8 := w_7
    refine lv_iload hC.x hC.b dX1_judgeSuspect_26 (lv_at hl 0 rfl) ?_
    refine goip (runS (As := [.int v_1]) (rest := [.int v_6]) hC hK hR hl.1 (c_J9_abs_0f7a4 l hG σ τ v_1 ) (call_b hC.ts TC_J9_abs_0f7a4 TN_J9 TM_X1_159 hd_J9_abs_0f7a4 ⟨Nat.le_of_ble_eq_true rfl, Nat.le_of_ble_eq_true rfl⟩) TT_J9_abs_0f7a4 rfl rfl (Nat.le_of_ble_eq_true rfl) dX1_judgeSuspect_28 ⟨Nat.le_of_ble_eq_true rfl, Nat.le_of_ble_eq_true rfl⟩) hS (fun v_9 H locs w_10 hR hS => ?_)
    have f_11 := w_10
    refine lv_iconst (v := 1) hC.x hC.b dX1_judgeSuspect_31 (by decide) ?_
    refine lv_iadd hC.x hC.b dX1_judgeSuspect_32 ?_
    refine lv_iconst (v := 2) hC.x hC.b dX1_judgeSuspect_33 (by decide) ?_
    refine lv_idiv hC.x hC.b dX1_judgeSuspect_34 (by decide) ?_
    refine bi_lt (tgt := 42) (a := v_6.toInt) (b := ((v_9 + (1 : Int32)) / (2 : Int32)).toInt) hC.x hC.b rfl rfl dX1_judgeSuspect_35 (by decide) (fun c_12 => ?_) (fun c_12 => ?_)
    · skip
      refine lv_iconst (v := 0) hC.x hC.b dX1_judgeSuspect_42 (by decide) ?_
      refine lv_istore (lv' := [(5, .int (0 : Int32)), (4, .int v_1), (0, .ref (G.2.1 21)), (1, .ref (G.2.1 (80 + cq))), (2, .int hr), (3, .int ma)]) hC.x hC.b dX1_judgeSuspect_43 hl (by decide) rfl (fun ls hl => ?_)
      refine lv_iload hC.x hC.b dX1_judgeSuspect_45 (lv_at hl 1 rfl) ?_
      refine lv_ldc hC.x hC.b hC.ow (hC.ts _ TK_X1_127) dX1_judgeSuspect_47 ?_
      refine bi_eq (tgt := 88) (a := v_1.toInt) (b := 2000000000) hC.x hC.b rfl rfl dX1_judgeSuspect_49 (by decide) (fun c_13 => ?_) (fun c_13 => ?_)
      · skip
        exact retv hC hK hR hS (by exact CF.rf) dX1_judgeSuspect_88
      · skip
        refine lv_iload hC.x hC.b dX1_judgeSuspect_52 (lv_at hl 0 rfl) ?_
        refine bz_eq (tgt := 88) (a := 0) (b := 0) hC.x hC.b rfl rfl dX1_judgeSuspect_54 (by decide) (fun _ => ?_) (fun c_14 => absurd c_14 (by decide))
        exact retv hC hK hR hS (by exact CF.rf) dX1_judgeSuspect_88
    · skip
      refine lv_iconst (v := 1) hC.x hC.b dX1_judgeSuspect_38 (by decide) ?_
      refine lv_goto (tgt := 43) hC.x hC.b dX1_judgeSuspect_39 (by decide) ?_
      refine lv_istore (lv' := [(5, .int (1 : Int32)), (4, .int v_1), (0, .ref (G.2.1 21)), (1, .ref (G.2.1 (80 + cq))), (2, .int hr), (3, .int ma)]) hC.x hC.b dX1_judgeSuspect_43 hl (by decide) rfl (fun ls hl => ?_)
      refine lv_iload hC.x hC.b dX1_judgeSuspect_45 (lv_at hl 1 rfl) ?_
      refine lv_ldc hC.x hC.b hC.ow (hC.ts _ TK_X1_127) dX1_judgeSuspect_47 ?_
      refine bi_eq (tgt := 88) (a := v_1.toInt) (b := 2000000000) hC.x hC.b rfl rfl dX1_judgeSuspect_49 (by decide) (fun c_15 => ?_) (fun c_15 => ?_)
      · skip
        exact retv hC hK hR hS (by exact CF.rf) dX1_judgeSuspect_88
      · skip
        refine lv_iload hC.x hC.b dX1_judgeSuspect_52 (lv_at hl 0 rfl) ?_
        refine bz_eq (tgt := 88) (a := 1) (b := 0) hC.x hC.b rfl rfl dX1_judgeSuspect_54 (by decide) (fun c_16 => absurd c_16 (by decide)) (fun _ => ?_)
        refine lv_aload_n hC.x hC.b dX1_judgeSuspect_57 rfl (lv_at hl 3 rfl) ?_
        refine lv_iconst (v := 1) hC.x hC.b dX1_judgeSuspect_58 (by decide) ?_
        refine rputi hC hK hG hR hS (ct_clock hcq G _ _) rfl uin_X0 tyX0 tyX0_ok nmX0 7 (by decide) TF_X1_138 rfl (Or.inr ⟨rfl, (Or.inr rfl)⟩) (Nat.le_of_ble_eq_true rfl) rfl (ct_clock hcq G _ _) dX1_judgeSuspect_59 (fun s_18 es_17 H locs hR hS => ?_)
        refine lv_aload_n hC.x hC.b dX1_judgeSuspect_62 rfl (lv_at hl 3 rfl) ?_
        refine lv_dup hC.x hC.b dX1_judgeSuspect_63 rfl ?_
        refine rget hC hK hR (ct_clock hcq G _ _) rfl uin_X0 10 (by decide) TF_X1_173 rfl dX1_judgeSuspect_64 ?_
        have rd_19 : (s_18 (80 + cq) 10).toInt = (σ (80 + cq) 10).toInt := congrArg Int32.toInt (show s_18 (80 + cq) 10 = σ (80 + cq) 10 from (by rw [es_17]; exact up2_n (by omega)))
        refine lv_iconst (v := 1) hC.x hC.b dX1_judgeSuspect_67 (by decide) ?_
        refine lv_iadd hC.x hC.b dX1_judgeSuspect_68 ?_
        refine rputi hC hK hG hR hS (ct_clock hcq G _ _) rfl uin_X0 tyX0 tyX0_ok nmX0 10 (by decide) TF_X1_173 rfl (Or.inl rfl) (Nat.le_of_ble_eq_true rfl) rfl (ct_clock hcq G _ _) dX1_judgeSuspect_69 (fun s_21 es_20 H locs hR hS => ?_)
        refine lv_aload_n hC.x hC.b dX1_judgeSuspect_72 rfl (lv_at hl 2 rfl) ?_
        refine rget hC hK hR (ct_closing G _ _) rfl uin_X1 4 (by decide) TF_X1_35 rfl dX1_judgeSuspect_73 ?_
        refine lv_iload_n hC.x hC.b dX1_judgeSuspect_76 rfl (lv_at hl 4 rfl) ?_
        refine lv_iconst (v := 1) hC.x hC.b dX1_judgeSuspect_77 (by decide) ?_
        refine lv_isub hC.x hC.b dX1_judgeSuspect_78 ?_
        refine lv_aload_n hC.x hC.b dX1_judgeSuspect_79 rfl (lv_at hl 3 rfl) ?_
        refine rget hC hK hR (ct_clock hcq G _ _) rfl uin_X0 0 (by decide) TF_X1_62 rfl dX1_judgeSuspect_80 ?_
        refine lv_iload hC.x hC.b dX1_judgeSuspect_83 (lv_at hl 1 rfl) ?_
        have av_22 : (nI cq).toInt = ((cq : Nat) : Int) := (nI_T _ (by omega))
        refine gov (runV (As := [.int (hr - (1 : Int32)), .int (nI cq), .int v_1]) (rest := []) hC hK hR hl.1 (c_X6_add l hG s_21 τ (hr - (1 : Int32)) (nI cq) v_1 ) (call_b hC.ts TC_X6_add TN_X6 TM_X1_175 hd_X6_add ⟨Nat.le_of_ble_eq_true rfl, Nat.le_of_ble_eq_true rfl⟩) TI_X6_add TS_X6_add (ct_steps G _ _) rfl rfl rfl (Nat.le_of_ble_eq_true rfl) dX1_judgeSuspect_85 ⟨Nat.le_of_ble_eq_true rfl, Nat.le_of_ble_eq_true rfl⟩) hS (fun s_25 t_26 H locs w_24 hR hS => ?_)
        try dsimp only [po_X6_add] at w_24
        have f_27 := w_24
        exact retv hC hK hR hS (by exact (CF.tr (by rw [es_20]; exact CF.upc ((by rw [es_17]; exact CF.upc (CF.rf) hcq (by omega))) hcq (by omega)) f_27)) dX1_judgeSuspect_88
  · skip
    refine bz_eq (tgt := 42) (a := 0) (b := 0) hC.x hC.b rfl rfl dX1_judgeSuspect_19 (by decide) (fun _ => ?_) (fun c_28 => absurd c_28 (by decide))
    refine lv_iconst (v := 0) hC.x hC.b dX1_judgeSuspect_42 (by decide) ?_
    refine lv_istore (lv' := [(5, .int (0 : Int32)), (4, .int v_1), (0, .ref (G.2.1 21)), (1, .ref (G.2.1 (80 + cq))), (2, .int hr), (3, .int ma)]) hC.x hC.b dX1_judgeSuspect_43 hl (by decide) rfl (fun ls hl => ?_)
    refine lv_iload hC.x hC.b dX1_judgeSuspect_45 (lv_at hl 1 rfl) ?_
    refine lv_ldc hC.x hC.b hC.ow (hC.ts _ TK_X1_127) dX1_judgeSuspect_47 ?_
    refine bi_eq (tgt := 88) (a := v_1.toInt) (b := 2000000000) hC.x hC.b rfl rfl dX1_judgeSuspect_49 (by decide) (fun c_29 => ?_) (fun c_29 => ?_)
    · skip
      exact retv hC hK hR hS (by exact CF.rf) dX1_judgeSuspect_88
    · skip
      refine lv_iload hC.x hC.b dX1_judgeSuspect_52 (lv_at hl 0 rfl) ?_
      refine bz_eq (tgt := 88) (a := 0) (b := 0) hC.x hC.b rfl rfl dX1_judgeSuspect_54 (by decide) (fun _ => ?_) (fun c_30 => absurd c_30 (by decide))
      exact retv hC hK hR hS (by exact CF.rf) dX1_judgeSuspect_88

abbrev po_X1_judge (σ : SI) (τ : SL) (cq : Nat) (hr : Int32) (ma : Int32) (ti : Int32) : SI × SL → Prop := fun u => ((CF σ u.1))
set_option maxRecDepth 100000 in
set_option maxHeartbeats 4000000 in
theorem c_X1_judge (l : Launch) {G : Gx} {A : Nat → Prop} (hG : GOk G A) (σ : SI) (τ : SL) (cq : Nat) (hcq : cq < 24) (hr : Int32) (ma : Int32) (ti : Int32) (hhr : 0 ≤ hr.toInt ∧ hr.toInt ≤ 200) : MV l G A 3 yX1_judge cX1_judge 5 none [.ref (G.2.1 21), .ref (G.2.1 (80 + cq)), .int hr, .int ma, .int ti] (σ, τ) (po_X1_judge σ τ cq hr ma ti) := by
  refine met_of (own := RX1) (by decide +kernel) rfl [(0, .ref (G.2.1 21)), (1, .ref (G.2.1 (80 + cq))), (2, .int hr), (3, .int ma), (4, .int ti)] rfl (Nat.le_of_ble_eq_true rfl) ?_
  intro p e s m args below meth c ls hC hK hR hl
  have hS : va_S A s.heap s.heap [] := va_S.rf
  refine lv_aload_n hC.x hC.b dX1_judge_0 rfl (lv_at hl 0 rfl) ?_
  refine rget hC hK hR (ct_closing G _ _) rfl uin_X1 3 (by decide) TF_X1_31 rfl dX1_judge_1 ?_
  refine lv_aload_n hC.x hC.b dX1_judge_4 rfl (lv_at hl 1 rfl) ?_
  refine lv_iload_n hC.x hC.b dX1_judge_5 rfl (lv_at hl 2 rfl) ?_
  refine goip (runV (As := [.ref (G.2.1 (80 + cq)), .int hr]) (rest := []) hC hK hR hl.1 (c_X2_drifts l hG σ τ cq hcq hr (by first | omega | assumption)) (call_b hC.ts TC_X2_drifts TN_X2 TM_X1_146 hd_X2_drifts ⟨Nat.le_of_ble_eq_true rfl, Nat.le_of_ble_eq_true rfl⟩) TI_X2_drifts TS_X2_drifts (ct_fore G _ _) rfl rfl rfl (Nat.le_of_ble_eq_true rfl) dX1_judge_6 ⟨Nat.le_of_ble_eq_true rfl, Nat.le_of_ble_eq_true rfl⟩) hS (fun v_1 H locs w_2 hR hS => ?_)
  rcases w_2 with rfl | rfl
  · skip
    refine bz_eq (tgt := 22) (a := 1) (b := 0) hC.x hC.b rfl rfl dX1_judge_9 (by decide) (fun c_3 => absurd c_3 (by decide)) (fun _ => ?_)
    refine lv_aload_n hC.x hC.b dX1_judge_12 rfl (lv_at hl 1 rfl) ?_
    refine lv_dup hC.x hC.b dX1_judge_13 rfl ?_
    refine rget hC hK hR (ct_clock hcq G _ _) rfl uin_X0 11 (by decide) TF_X1_150 rfl dX1_judge_14 ?_
    refine lv_iconst (v := 1) hC.x hC.b dX1_judge_17 (by decide) ?_
    refine lv_iadd hC.x hC.b dX1_judge_18 ?_
    refine rputi hC hK hG hR hS (ct_clock hcq G _ _) rfl uin_X0 tyX0 tyX0_ok nmX0 11 (by decide) TF_X1_150 rfl (Or.inl rfl) (Nat.le_of_ble_eq_true rfl) rfl (ct_clock hcq G _ _) dX1_judge_19 (fun s_5 es_4 H locs hR hS => ?_)
    refine lv_aload_n hC.x hC.b dX1_judge_22 rfl (lv_at hl 1 rfl) ?_
    refine rget hC hK hR (ct_clock hcq G _ _) rfl uin_X0 9 (by decide) TF_X1_152 rfl dX1_judge_23 ?_
    have rd_6 : (s_5 (80 + cq) 9).toInt = (σ (80 + cq) 9).toInt := congrArg Int32.toInt (show s_5 (80 + cq) 9 = σ (80 + cq) 9 from (by rw [es_4]; exact up2_n (by omega)))
    refine lv_iload_n hC.x hC.b dX1_judge_26 rfl (lv_at hl 2 rfl) ?_
    refine lv_iconst (v := 1) hC.x hC.b dX1_judge_27 (by decide) ?_
    refine lv_isub hC.x hC.b dX1_judge_28 ?_
    refine bi_ne (tgt := 42) (a := (s_5 (80 + cq) 9).toInt) (b := (hr - (1 : Int32)).toInt) hC.x hC.b rfl rfl dX1_judge_29 (by decide) (fun c_7 => ?_) (fun c_7 => ?_)
    · skip
      refine lv_iload_n hC.x hC.b dX1_judge_42 rfl (lv_at hl 3 rfl) ?_
      refine goip (runS (As := [.int ma]) (rest := []) hC hK hR hl.1 (c_J9_abs_0f7a4 l hG s_5 τ ma ) (call_b hC.ts TC_J9_abs_0f7a4 TN_J9 TM_X1_159 hd_J9_abs_0f7a4 ⟨Nat.le_of_ble_eq_true rfl, Nat.le_of_ble_eq_true rfl⟩) TT_J9_abs_0f7a4 rfl rfl (Nat.le_of_ble_eq_true rfl) dX1_judge_43 ⟨Nat.le_of_ble_eq_true rfl, Nat.le_of_ble_eq_true rfl⟩) hS (fun v_8 H locs w_9 hR hS => ?_)
      have f_10 := w_9
      refine lv_i2l hC.x hC.b dX1_judge_46 rfl ?_
      refine lv_iload hC.x hC.b dX1_judge_47 (lv_at hl 4 rfl) ?_
      refine lv_i2l hC.x hC.b dX1_judge_49 rfl ?_
      refine lv_aload_n hC.x hC.b dX1_judge_50 rfl (lv_at hl 0 rfl) ?_
      refine rget hC hK hR (ct_closing G _ _) rfl uin_X1 3 (by decide) TF_X1_31 rfl dX1_judge_51 ?_
      refine lv_aload_n hC.x hC.b dX1_judge_54 rfl (lv_at hl 1 rfl) ?_
      refine lv_iload_n hC.x hC.b dX1_judge_55 rfl (lv_at hl 2 rfl) ?_
      refine gol (runV (As := [.ref (G.2.1 (80 + cq)), .int hr]) (rest := [.long ti.toInt64, .long v_8.toInt64]) hC hK hR hl.1 (c_X2_usuallyMissedBy l hG s_5 τ cq hcq hr ) (call_b hC.ts TC_X2_usuallyMissedBy TN_X2 TM_X1_162 hd_X2_usuallyMissedBy ⟨Nat.le_of_ble_eq_true rfl, Nat.le_of_ble_eq_true rfl⟩) TI_X2_usuallyMissedBy TS_X2_usuallyMissedBy (ct_fore G _ _) rfl rfl rfl (Nat.le_of_ble_eq_true rfl) dX1_judge_56 ⟨Nat.le_of_ble_eq_true rfl, Nat.le_of_ble_eq_true rfl⟩) hS (fun v_11 s_13 t_14 H locs w_12 hR hS => ?_)
      try dsimp only [po_X2_usuallyMissedBy] at w_12
      have f_15 := w_12
      refine lv_lconst (v := 1) hC.x hC.b dX1_judge_59 (by decide) ?_
      refine lv_ladd hC.x hC.b dX1_judge_60 ?_
      refine lv_lmul hC.x hC.b dX1_judge_61 ?_
      refine bl_le (tgt := 71) (a := v_8.toInt) (b := (ti.toInt64 * (v_11 + (1 : Int64))).toInt) hC.x hC.b (i2lI rfl) rfl dX1_judge_62 dX1_judge_63 (by decide) (fun c_16 => ?_) (fun c_16 => ?_)
      · skip
        exact retv hC hK hR hS (by exact (CF.tr (by rw [es_4]; exact CF.upc (CF.rf) hcq (by omega)) (CF.fore f_15))) dX1_judge_71
      · skip
        refine lv_aload_n hC.x hC.b dX1_judge_66 rfl (lv_at hl 1 rfl) ?_
        refine lv_iload_n hC.x hC.b dX1_judge_67 rfl (lv_at hl 2 rfl) ?_
        refine rputi hC hK hG hR hS (ct_clock hcq G _ _) rfl uin_X0 tyX0 tyX0_ok nmX0 9 (by decide) TF_X1_152 rfl (Or.inl rfl) (Nat.le_of_ble_eq_true rfl) rfl (ct_clock hcq G _ _) dX1_judge_68 (fun s_18 es_17 H locs hR hS => ?_)
        exact retv hC hK hR hS (by exact (by rw [es_17]; exact CF.upc ((CF.tr (by rw [es_4]; exact CF.upc (CF.rf) hcq (by omega)) (CF.fore f_15))) hcq (by omega))) dX1_judge_71
    · skip
      refine lv_aload_n hC.x hC.b dX1_judge_32 rfl (lv_at hl 0 rfl) ?_
      refine lv_aload_n hC.x hC.b dX1_judge_33 rfl (lv_at hl 1 rfl) ?_
      refine lv_iload_n hC.x hC.b dX1_judge_34 rfl (lv_at hl 2 rfl) ?_
      refine lv_iload_n hC.x hC.b dX1_judge_35 rfl (lv_at hl 3 rfl) ?_
      refine gov (runV (As := [.ref (G.2.1 (80 + cq)), .int hr, .int ma]) (rest := []) hC hK hR hl.1 (c_X1_judgeSuspect l hG s_5 τ cq hcq hr ma (by first | omega | assumption)) (call_b hC.ts TC_X1_judgeSuspect TN_X1 TM_X1_155 hd_X1_judgeSuspect ⟨Nat.le_of_ble_eq_true rfl, Nat.le_of_ble_eq_true rfl⟩) TI_X1_judgeSuspect TS_X1_judgeSuspect (ct_closing G _ _) rfl rfl rfl (Nat.le_of_ble_eq_true rfl) dX1_judge_36 ⟨Nat.le_of_ble_eq_true rfl, Nat.le_of_ble_eq_true rfl⟩) hS (fun s_21 t_22 H locs w_20 hR hS => ?_)
      try dsimp only [po_X1_judgeSuspect] at w_20
      have f_23 := w_20
      refine lv_goto (tgt := 71) hC.x hC.b dX1_judge_39 (by decide) ?_
      exact retv hC hK hR hS (by exact (CF.tr (by rw [es_4]; exact CF.upc (CF.rf) hcq (by omega)) f_23)) dX1_judge_71
  · skip
    refine bz_eq (tgt := 22) (a := 0) (b := 0) hC.x hC.b rfl rfl dX1_judge_9 (by decide) (fun _ => ?_) (fun c_24 => absurd c_24 (by decide))
    refine lv_aload_n hC.x hC.b dX1_judge_22 rfl (lv_at hl 1 rfl) ?_
    refine rget hC hK hR (ct_clock hcq G _ _) rfl uin_X0 9 (by decide) TF_X1_152 rfl dX1_judge_23 ?_
    refine lv_iload_n hC.x hC.b dX1_judge_26 rfl (lv_at hl 2 rfl) ?_
    refine lv_iconst (v := 1) hC.x hC.b dX1_judge_27 (by decide) ?_
    refine lv_isub hC.x hC.b dX1_judge_28 ?_
    refine bi_ne (tgt := 42) (a := (σ (80 + cq) 9).toInt) (b := (hr - (1 : Int32)).toInt) hC.x hC.b rfl rfl dX1_judge_29 (by decide) (fun c_25 => ?_) (fun c_25 => ?_)
    · skip
      refine lv_iload_n hC.x hC.b dX1_judge_42 rfl (lv_at hl 3 rfl) ?_
      refine goip (runS (As := [.int ma]) (rest := []) hC hK hR hl.1 (c_J9_abs_0f7a4 l hG σ τ ma ) (call_b hC.ts TC_J9_abs_0f7a4 TN_J9 TM_X1_159 hd_J9_abs_0f7a4 ⟨Nat.le_of_ble_eq_true rfl, Nat.le_of_ble_eq_true rfl⟩) TT_J9_abs_0f7a4 rfl rfl (Nat.le_of_ble_eq_true rfl) dX1_judge_43 ⟨Nat.le_of_ble_eq_true rfl, Nat.le_of_ble_eq_true rfl⟩) hS (fun v_26 H locs w_27 hR hS => ?_)
      have f_28 := w_27
      refine lv_i2l hC.x hC.b dX1_judge_46 rfl ?_
      refine lv_iload hC.x hC.b dX1_judge_47 (lv_at hl 4 rfl) ?_
      refine lv_i2l hC.x hC.b dX1_judge_49 rfl ?_
      refine lv_aload_n hC.x hC.b dX1_judge_50 rfl (lv_at hl 0 rfl) ?_
      refine rget hC hK hR (ct_closing G _ _) rfl uin_X1 3 (by decide) TF_X1_31 rfl dX1_judge_51 ?_
      refine lv_aload_n hC.x hC.b dX1_judge_54 rfl (lv_at hl 1 rfl) ?_
      refine lv_iload_n hC.x hC.b dX1_judge_55 rfl (lv_at hl 2 rfl) ?_
      refine gol (runV (As := [.ref (G.2.1 (80 + cq)), .int hr]) (rest := [.long ti.toInt64, .long v_26.toInt64]) hC hK hR hl.1 (c_X2_usuallyMissedBy l hG σ τ cq hcq hr ) (call_b hC.ts TC_X2_usuallyMissedBy TN_X2 TM_X1_162 hd_X2_usuallyMissedBy ⟨Nat.le_of_ble_eq_true rfl, Nat.le_of_ble_eq_true rfl⟩) TI_X2_usuallyMissedBy TS_X2_usuallyMissedBy (ct_fore G _ _) rfl rfl rfl (Nat.le_of_ble_eq_true rfl) dX1_judge_56 ⟨Nat.le_of_ble_eq_true rfl, Nat.le_of_ble_eq_true rfl⟩) hS (fun v_29 s_31 t_32 H locs w_30 hR hS => ?_)
      try dsimp only [po_X2_usuallyMissedBy] at w_30
      have f_33 := w_30
      refine lv_lconst (v := 1) hC.x hC.b dX1_judge_59 (by decide) ?_
      refine lv_ladd hC.x hC.b dX1_judge_60 ?_
      refine lv_lmul hC.x hC.b dX1_judge_61 ?_
      refine bl_le (tgt := 71) (a := v_26.toInt) (b := (ti.toInt64 * (v_29 + (1 : Int64))).toInt) hC.x hC.b (i2lI rfl) rfl dX1_judge_62 dX1_judge_63 (by decide) (fun c_34 => ?_) (fun c_34 => ?_)
      · skip
        exact retv hC hK hR hS (by exact (CF.tr CF.rf (CF.fore f_33))) dX1_judge_71
      · skip
        refine lv_aload_n hC.x hC.b dX1_judge_66 rfl (lv_at hl 1 rfl) ?_
        refine lv_iload_n hC.x hC.b dX1_judge_67 rfl (lv_at hl 2 rfl) ?_
        refine rputi hC hK hG hR hS (ct_clock hcq G _ _) rfl uin_X0 tyX0 tyX0_ok nmX0 9 (by decide) TF_X1_152 rfl (Or.inl rfl) (Nat.le_of_ble_eq_true rfl) rfl (ct_clock hcq G _ _) dX1_judge_68 (fun s_36 es_35 H locs hR hS => ?_)
        exact retv hC hK hR hS (by exact (by rw [es_35]; exact CF.upc ((CF.tr CF.rf (CF.fore f_33))) hcq (by omega))) dX1_judge_71
    · skip
      refine lv_aload_n hC.x hC.b dX1_judge_32 rfl (lv_at hl 0 rfl) ?_
      refine lv_aload_n hC.x hC.b dX1_judge_33 rfl (lv_at hl 1 rfl) ?_
      refine lv_iload_n hC.x hC.b dX1_judge_34 rfl (lv_at hl 2 rfl) ?_
      refine lv_iload_n hC.x hC.b dX1_judge_35 rfl (lv_at hl 3 rfl) ?_
      refine gov (runV (As := [.ref (G.2.1 (80 + cq)), .int hr, .int ma]) (rest := []) hC hK hR hl.1 (c_X1_judgeSuspect l hG σ τ cq hcq hr ma (by first | omega | assumption)) (call_b hC.ts TC_X1_judgeSuspect TN_X1 TM_X1_155 hd_X1_judgeSuspect ⟨Nat.le_of_ble_eq_true rfl, Nat.le_of_ble_eq_true rfl⟩) TI_X1_judgeSuspect TS_X1_judgeSuspect (ct_closing G _ _) rfl rfl rfl (Nat.le_of_ble_eq_true rfl) dX1_judge_36 ⟨Nat.le_of_ble_eq_true rfl, Nat.le_of_ble_eq_true rfl⟩) hS (fun s_39 t_40 H locs w_38 hR hS => ?_)
      try dsimp only [po_X1_judgeSuspect] at w_38
      have f_41 := w_38
      refine lv_goto (tgt := 71) hC.x hC.b dX1_judge_39 (by decide) ?_
      exact retv hC hK hR hS (by exact (CF.tr CF.rf f_41)) dX1_judge_71

abbrev po_X1_judgeAll (σ : SI) (τ : SL) (hr : Int32) (ti : Int32) : SI × SL → Prop := fun u => ((CF σ u.1))
set_option maxRecDepth 100000 in
set_option maxHeartbeats 4000000 in
theorem c_X1_judgeAll (l : Launch) {G : Gx} {A : Nat → Prop} (hG : GOk G A) (σ : SI) (τ : SL) (hr : Int32) (ti : Int32) (hhr : 0 ≤ hr.toInt ∧ hr.toInt ≤ 200) : MV l G A 4 yX1_judgeAll cX1_judgeAll 6 none [.ref (G.2.1 21), .int hr, .int ti] (σ, τ) (po_X1_judgeAll σ τ hr ti) := by
  refine met_of (own := RX1) (by decide +kernel) rfl [(0, .ref (G.2.1 21)), (1, .int hr), (2, .int ti)] rfl (Nat.le_of_ble_eq_true rfl) ?_
  intro p e s m args below meth c ls hC hK hR hl
  have hS : va_S A s.heap s.heap [] := va_S.rf
  refine lv_iconst (v := 0) hC.x hC.b dX1_judgeAll_0 (by decide) ?_
  refine lv_istore_n (lv' := [(3, .int (0 : Int32)), (0, .ref (G.2.1 21)), (1, .int hr), (2, .int ti)]) hC.x hC.b dX1_judgeAll_1 rfl hl (by decide) rfl (fun ls hl => ?_)
  have L_2 : ∀ (F : Nat) (n : Nat) (s1 : SI) (t1 : SL), (24 - n) < F → (n ≤ 24) → (CF σ s1) → ∀ (H : Heap) (locs : List Loc) (ls : Array Slot), RepH G s1 t1 H → va_S A s.heap H locs → lv_has ls 6 [(0, .ref (G.2.1 21)), (1, .int hr), (2, .int ti), (3, .int (nI n))] → W p l e (rmD 4) s m args below meth c H locs 0 0 (MQ below (va_Qv (po_X1_judgeAll σ τ hr ti) (BU G) A) args s 0 0 A) (F0 m 2 ls []) := by
    intro F
    induction F with
    | zero => intro n s1 t1 hm; exact absurd hm (Nat.not_lt_zero _)
    | succ F ih_2 =>
      intro n s1 t1 hm_2 hi0_2 hi1_2 H locs ls hR hS hl
      have hnI := nI_T n (by omega)
      refine lv_iload_n hC.x hC.b dX1_judgeAll_2 rfl (lv_at hl 3 rfl) ?_
      refine lv_bipush (v := 24) hC.x hC.b dX1_judgeAll_3 (by decide) ?_
      refine bi_ge (tgt := 66) (a := (n : Int)) (b := 24) hC.x hC.b (nI_T n (by omega)) rfl dX1_judgeAll_5 (by decide) (fun c_1 => ?_) (fun c_1 => ?_)
      · skip
        exact retv hC hK hR hS (by exact hi1_2) dX1_judgeAll_66
      · skip
        refine lv_aload_n hC.x hC.b dX1_judgeAll_8 rfl (lv_at hl 0 rfl) ?_
        refine rget hC hK hR (ct_closing G _ _) rfl uin_X1 0 (by decide) TF_X1_19 rfl dX1_judgeAll_9 ?_
        refine lv_iload_n hC.x hC.b dX1_judgeAll_12 rfl (lv_at hl 3 rfl) ?_
        have av_2 : (nI n).toInt = (n : Int) := (nI_T n (by omega))
        refine goqp (runV (As := [.int (nI n)]) (rest := []) hC hK hR hl.1 (c_X5_clockAt l hG s1 t1 (nI n) n (by first | rfl | (rw [show (nI n).toInt = (n : Int) from (nI_T n (by omega))]; done) | (rw [show (nI n).toInt = (n : Int) from (nI_T n (by omega))]; exact (Int.toNat_natCast _))) ) (call_b hC.ts TC_X5_clockAt TN_X5 TM_X1_73 hd_X5_clockAt ⟨Nat.le_of_ble_eq_true rfl, Nat.le_of_ble_eq_true rfl⟩) TI_X5_clockAt TS_X5_clockAt (ct_shelf G _ _) rfl rfl rfl (Nat.le_of_ble_eq_true rfl) dX1_judgeAll_13 ⟨Nat.le_of_ble_eq_true rfl, Nat.le_of_ble_eq_true rfl⟩) hS (fun v_3 H locs w_4 hR hS => ?_)
        rcases w_4 with ⟨rfl, f_5⟩ | ⟨rfl, f_6, f_7, f_8, f_9⟩
        · skip
          refine lv_astoreN (lv' := [(4, .null), (0, .ref (G.2.1 21)), (1, .int hr), (2, .int ti), (3, .int (nI n))]) hC.x hC.b dX1_judgeAll_16 hl (by decide) rfl (fun ls hl => ?_)
          refine lv_aload_n hC.x hC.b dX1_judgeAll_18 rfl (lv_at hl 1 rfl) ?_
          refine rget hC hK hR (ct_closing G _ _) rfl uin_X1 2 (by decide) TF_X1_27 rfl dX1_judgeAll_19 ?_
          refine lv_iconst (v := 2) hC.x hC.b dX1_judgeAll_22 (by decide) ?_
          refine lv_iload_n hC.x hC.b dX1_judgeAll_23 rfl (lv_at hl 2 rfl) ?_
          refine lv_iload_n hC.x hC.b dX1_judgeAll_24 rfl (lv_at hl 4 rfl) ?_
          have av_10 : (2 : Int32).toInt = 2 := by decide
          have av_11 : (nI n).toInt = (n : Int) := (nI_T n (by omega))
          refine goip (runV (As := [.int (2 : Int32), .int hr, .int (nI n)]) (rest := []) hC hK hR hl.1 (c_X7_ofClock l hG s1 t1 (2 : Int32) hr (nI n) ) (call_b hC.ts TC_X7_ofClock TN_X7 TM_X1_123 hd_X7_ofClock ⟨Nat.le_of_ble_eq_true rfl, Nat.le_of_ble_eq_true rfl⟩) TI_X7_ofClock TS_X7_ofClock (ct_told G _ _) rfl rfl rfl (Nat.le_of_ble_eq_true rfl) dX1_judgeAll_25 ⟨Nat.le_of_ble_eq_true rfl, Nat.le_of_ble_eq_true rfl⟩) hS (fun v_12 H locs w_13 hR hS => ?_)
          refine lv_istore (lv' := [(5, .int v_12), (4, .null), (0, .ref (G.2.1 21)), (1, .int hr), (2, .int ti), (3, .int (nI n))]) hC.x hC.b dX1_judgeAll_28 hl (by decide) rfl (fun ls hl => ?_)
          refine lv_aloadN hC.x hC.b dX1_judgeAll_30 (lv_at hl 1 rfl) ?_
          refine lv_ifnullN (tgt := 60) hC.x hC.b dX1_judgeAll_32 (by decide) ?_
          refine lv_iinc (v := nI (n + 1)) (lv' := [(3, .int (nI (n + 1))), (5, .int v_12), (4, .null), (0, .ref (G.2.1 21)), (1, .int hr), (2, .int ti)]) hC.x hC.b dX1_judgeAll_60 hl (k := 5) rfl (nI_succ _).symm (by decide) rfl (fun ls hl => ?_)
          refine lv_goto (tgt := 2) hC.x hC.b dX1_judgeAll_63 (by decide) ?_
          exact ih_2 (n + 1) s1 t1 (by omega) (by first | omega | assumption) hi1_2 _ _ _ hR hS (lv_sub hl [3, 4, 5, 0] rfl)
        · skip
          have hq_14 : n < 24 := by omega
          refine lv_astore (lv' := [(4, .ref (G.2.1 (80 + n))), (0, .ref (G.2.1 21)), (1, .int hr), (2, .int ti), (3, .int (nI n))]) hC.x hC.b dX1_judgeAll_16 hl (by decide) rfl (fun ls hl => ?_)
          refine lv_aload_n hC.x hC.b dX1_judgeAll_18 rfl (lv_at hl 1 rfl) ?_
          refine rget hC hK hR (ct_closing G _ _) rfl uin_X1 2 (by decide) TF_X1_27 rfl dX1_judgeAll_19 ?_
          refine lv_iconst (v := 2) hC.x hC.b dX1_judgeAll_22 (by decide) ?_
          refine lv_iload_n hC.x hC.b dX1_judgeAll_23 rfl (lv_at hl 2 rfl) ?_
          refine lv_iload_n hC.x hC.b dX1_judgeAll_24 rfl (lv_at hl 4 rfl) ?_
          have av_15 : (2 : Int32).toInt = 2 := by decide
          have av_16 : (nI n).toInt = (n : Int) := (nI_T n (by omega))
          refine goip (runV (As := [.int (2 : Int32), .int hr, .int (nI n)]) (rest := []) hC hK hR hl.1 (c_X7_ofClock l hG s1 t1 (2 : Int32) hr (nI n) ) (call_b hC.ts TC_X7_ofClock TN_X7 TM_X1_123 hd_X7_ofClock ⟨Nat.le_of_ble_eq_true rfl, Nat.le_of_ble_eq_true rfl⟩) TI_X7_ofClock TS_X7_ofClock (ct_told G _ _) rfl rfl rfl (Nat.le_of_ble_eq_true rfl) dX1_judgeAll_25 ⟨Nat.le_of_ble_eq_true rfl, Nat.le_of_ble_eq_true rfl⟩) hS (fun v_17 H locs w_18 hR hS => ?_)
          refine lv_istore (lv' := [(5, .int v_17), (4, .ref (G.2.1 (80 + n))), (0, .ref (G.2.1 21)), (1, .int hr), (2, .int ti), (3, .int (nI n))]) hC.x hC.b dX1_judgeAll_28 hl (by decide) rfl (fun ls hl => ?_)
          refine lv_aload hC.x hC.b dX1_judgeAll_30 (lv_at hl 1 rfl) ?_
          refine lv_ifnull hC.x hC.b dX1_judgeAll_32 ?_
          refine lv_aload hC.x hC.b dX1_judgeAll_35 (lv_at hl 1 rfl) ?_
          refine rget hC hK hR (ct_clock hq_14 G _ _) rfl uin_X0 7 (by decide) TF_X1_138 rfl dX1_judgeAll_37 ?_
          refine bz_ne (tgt := 60) (a := (s1 (80 + n) 7).toInt) (b := 0) hC.x hC.b rfl rfl dX1_judgeAll_40 (by decide) (fun c_19 => ?_) (fun c_19 => ?_)
          · skip
            refine lv_iinc (v := nI (n + 1)) (lv' := [(3, .int (nI (n + 1))), (5, .int v_17), (4, .ref (G.2.1 (80 + n))), (0, .ref (G.2.1 21)), (1, .int hr), (2, .int ti)]) hC.x hC.b dX1_judgeAll_60 hl (k := 5) rfl (nI_succ _).symm (by decide) rfl (fun ls hl => ?_)
            refine lv_goto (tgt := 2) hC.x hC.b dX1_judgeAll_63 (by decide) ?_
            exact ih_2 (n + 1) s1 t1 (by omega) (by first | omega | assumption) hi1_2 _ _ _ hR hS (lv_sub hl [3, 4, 5, 0] rfl)
          · skip
            refine lv_iload hC.x hC.b dX1_judgeAll_43 (lv_at hl 0 rfl) ?_
            refine lv_ldc hC.x hC.b hC.ow (hC.ts _ TK_X1_127) dX1_judgeAll_45 ?_
            refine bi_eq (tgt := 60) (a := v_17.toInt) (b := 2000000000) hC.x hC.b rfl rfl dX1_judgeAll_47 (by decide) (fun c_20 => ?_) (fun c_20 => ?_)
            · skip
              refine lv_iinc (v := nI (n + 1)) (lv' := [(3, .int (nI (n + 1))), (5, .int v_17), (4, .ref (G.2.1 (80 + n))), (0, .ref (G.2.1 21)), (1, .int hr), (2, .int ti)]) hC.x hC.b dX1_judgeAll_60 hl (k := 5) rfl (nI_succ _).symm (by decide) rfl (fun ls hl => ?_)
              refine lv_goto (tgt := 2) hC.x hC.b dX1_judgeAll_63 (by decide) ?_
              exact ih_2 (n + 1) s1 t1 (by omega) (by first | omega | assumption) hi1_2 _ _ _ hR hS (lv_sub hl [3, 4, 5, 0] rfl)
            · skip
              refine lv_aload_n hC.x hC.b dX1_judgeAll_50 rfl (lv_at hl 2 rfl) ?_
              refine lv_aload hC.x hC.b dX1_judgeAll_51 (lv_at hl 1 rfl) ?_
              refine lv_iload_n hC.x hC.b dX1_judgeAll_53 rfl (lv_at hl 3 rfl) ?_
              refine lv_iload hC.x hC.b dX1_judgeAll_54 (lv_at hl 0 rfl) ?_
              refine lv_iload_n hC.x hC.b dX1_judgeAll_56 rfl (lv_at hl 4 rfl) ?_
              refine gov (runV (As := [.ref (G.2.1 (80 + n)), .int hr, .int v_17, .int ti]) (rest := []) hC hK hR hl.1 (c_X1_judge l hG s1 t1 n hq_14 hr v_17 ti (by first | omega | assumption)) (call_b hC.ts TC_X1_judge TN_X1 TM_X1_142 hd_X1_judge ⟨Nat.le_of_ble_eq_true rfl, Nat.le_of_ble_eq_true rfl⟩) TI_X1_judge TS_X1_judge (ct_closing G _ _) rfl rfl rfl (Nat.le_of_ble_eq_true rfl) dX1_judgeAll_57 ⟨Nat.le_of_ble_eq_true rfl, Nat.le_of_ble_eq_true rfl⟩) hS (fun s_23 t_24 H locs w_22 hR hS => ?_)
              try dsimp only [po_X1_judge] at w_22
              have f_25 := w_22
              refine lv_iinc (v := nI (n + 1)) (lv' := [(3, .int (nI (n + 1))), (5, .int v_17), (4, .ref (G.2.1 (80 + n))), (0, .ref (G.2.1 21)), (1, .int hr), (2, .int ti)]) hC.x hC.b dX1_judgeAll_60 hl (k := 5) rfl (nI_succ _).symm (by decide) rfl (fun ls hl => ?_)
              refine lv_goto (tgt := 2) hC.x hC.b dX1_judgeAll_63 (by decide) ?_
              exact ih_2 (n + 1) s_23 t_24 (by omega) (by first | omega | assumption) (CF.tr hi1_2 f_25) _ _ _ hR hS (lv_sub hl [3, 4, 5, 0] rfl)
  exact L_2 _ 0 σ τ (Nat.lt_succ_self _) (by first | omega | assumption) CF.rf _ _ _ hR hS (lv_sub hl [1, 2, 3, 0] rfl)

abbrev po_X1_closeHour (σ : SI) (τ : SL) (hr : Int32) (pa : Int32) (ti : Int32) : Int32 → SI × SL → Prop := fun v u => ((CF σ u.1))
set_option maxRecDepth 100000 in
set_option maxHeartbeats 4000000 in
theorem c_X1_closeHour (l : Launch) {G : Gx} {A : Nat → Prop} (hG : GOk G A) (σ : SI) (τ : SL) (hr : Int32) (pa : Int32) (ti : Int32) (hhr : 0 ≤ hr.toInt ∧ hr.toInt ≤ 200) : MI l G A 5 yX1_closeHour cX1_closeHour 5 (some .int) [.ref (G.2.1 21), .int hr, .int pa, .int ti] (σ, τ) (po_X1_closeHour σ τ hr pa ti) := by
  refine met_of (own := RX1) (by decide +kernel) rfl [(0, .ref (G.2.1 21)), (1, .int hr), (2, .int pa), (3, .int ti)] rfl (Nat.le_of_ble_eq_true rfl) ?_
  intro p e s m args below meth c ls hC hK hR hl
  have hS : va_S A s.heap s.heap [] := va_S.rf
  refine lv_aload_n hC.x hC.b dX1_closeHour_0 rfl (lv_at hl 0 rfl) ?_
  refine lv_iconst (v := 0) hC.x hC.b dX1_closeHour_1 (by decide) ?_
  refine rputi hC hK hG hR hS (ct_closing G _ _) rfl uin_X1 tyX1 tyX1_ok nmX1 6 (by decide) TF_X1_15 rfl (Or.inl rfl) (Nat.le_of_ble_eq_true rfl) rfl (ct_closing G _ _) dX1_closeHour_2 (fun s_2 es_1 H locs hR hS => ?_)
  refine lv_aload_n hC.x hC.b dX1_closeHour_5 rfl (lv_at hl 0 rfl) ?_
  refine goqp (runV (As := []) (rest := []) hC hK hR hl.1 (c_X1_leastTaken l hG s_2 τ  ) (call_b hC.ts TC_X1_leastTaken TN_X1 TM_X1_39 hd_X1_leastTaken ⟨Nat.le_of_ble_eq_true rfl, Nat.le_of_ble_eq_true rfl⟩) TI_X1_leastTaken TS_X1_leastTaken (ct_closing G _ _) rfl rfl rfl (Nat.le_of_ble_eq_true rfl) dX1_closeHour_6 ⟨Nat.le_of_ble_eq_true rfl, Nat.le_of_ble_eq_true rfl⟩) hS (fun v_3 H locs w_4 hR hS => ?_)
  rcases w_4 with rfl | ⟨j_5, hq_6, rfl⟩
  · skip
    refine lv_astoreN (lv' := [(4, .null), (0, .ref (G.2.1 21)), (1, .int hr), (2, .int pa), (3, .int ti)]) hC.x hC.b dX1_closeHour_9 hl (by decide) rfl (fun ls hl => ?_)
    refine lv_aloadN hC.x hC.b dX1_closeHour_11 (lv_at hl 0 rfl) ?_
    refine lv_ifnullN (tgt := 82) hC.x hC.b dX1_closeHour_13 (by decide) ?_
    refine lv_aload_n hC.x hC.b dX1_closeHour_82 rfl (lv_at hl 1 rfl) ?_
    refine rget hC hK hR (ct_closing G _ _) rfl uin_X1 6 (by decide) TF_X1_15 rfl dX1_closeHour_83 ?_
    have rd_7 : (s_2 21 6).toInt = 0 := (congrArg Int32.toInt (show s_2 21 6 = (0 : Int32) from (by rw [es_1]; exact up2_s))).trans (by decide)
    exact reti hC hK hR hS (by exact (by rw [es_1]; exact CF.up (CF.rf) (by omega))) dX1_closeHour_86
  · skip
    refine lv_astore (lv' := [(4, .ref (G.2.1 (80 + j_5))), (0, .ref (G.2.1 21)), (1, .int hr), (2, .int pa), (3, .int ti)]) hC.x hC.b dX1_closeHour_9 hl (by decide) rfl (fun ls hl => ?_)
    refine lv_aload hC.x hC.b dX1_closeHour_11 (lv_at hl 0 rfl) ?_
    refine lv_ifnull hC.x hC.b dX1_closeHour_13 ?_
    refine lv_aload_n hC.x hC.b dX1_closeHour_16 rfl (lv_at hl 1 rfl) ?_
    refine lv_aload hC.x hC.b dX1_closeHour_17 (lv_at hl 0 rfl) ?_
    refine lv_iload_n hC.x hC.b dX1_closeHour_19 rfl (lv_at hl 2 rfl) ?_
    refine gov (runV (As := [.ref (G.2.1 (80 + j_5)), .int hr]) (rest := []) hC hK hR hl.1 (c_X1_hold l hG s_2 τ j_5 hq_6 hr ) (call_b hC.ts TC_X1_hold TN_X1 TM_X1_43 hd_X1_hold ⟨Nat.le_of_ble_eq_true rfl, Nat.le_of_ble_eq_true rfl⟩) TI_X1_hold TS_X1_hold (ct_closing G _ _) rfl rfl rfl (Nat.le_of_ble_eq_true rfl) dX1_closeHour_20 ⟨Nat.le_of_ble_eq_true rfl, Nat.le_of_ble_eq_true rfl⟩) hS (fun s_10 t_11 H locs w_9 hR hS => ?_)
    try dsimp only [po_X1_hold] at w_9
    have f_12 := w_9
    refine lv_aload_n hC.x hC.b dX1_closeHour_23 rfl (lv_at hl 1 rfl) ?_
    refine lv_iload_n hC.x hC.b dX1_closeHour_24 rfl (lv_at hl 2 rfl) ?_
    refine lv_iload_n hC.x hC.b dX1_closeHour_25 rfl (lv_at hl 3 rfl) ?_
    refine gov (runV (As := [.int hr, .int pa]) (rest := []) hC hK hR hl.1 (c_X1_weigh l hG s_10 t_11 hr pa ) (call_b hC.ts TC_X1_weigh TN_X1 TM_X1_47 hd_X1_weigh ⟨Nat.le_of_ble_eq_true rfl, Nat.le_of_ble_eq_true rfl⟩) TI_X1_weigh TS_X1_weigh (ct_closing G _ _) rfl rfl rfl (Nat.le_of_ble_eq_true rfl) dX1_closeHour_26 ⟨Nat.le_of_ble_eq_true rfl, Nat.le_of_ble_eq_true rfl⟩) hS (fun s_15 t_16 H locs w_14 hR hS => ?_)
    try dsimp only [po_X1_weigh] at w_14
    have f_17 := w_14
    refine lv_aload_n hC.x hC.b dX1_closeHour_29 rfl (lv_at hl 1 rfl) ?_
    refine lv_iload_n hC.x hC.b dX1_closeHour_30 rfl (lv_at hl 2 rfl) ?_
    refine lv_aload_n hC.x hC.b dX1_closeHour_31 rfl (lv_at hl 1 rfl) ?_
    refine lv_iload_n hC.x hC.b dX1_closeHour_32 rfl (lv_at hl 2 rfl) ?_
    refine gol (runV (As := [.int hr]) (rest := [.int hr, .ref (G.2.1 21)]) hC hK hR hl.1 (c_X1_makePaper l hG s_15 t_16 hr ) (call_b hC.ts TC_X1_makePaper TN_X1 TM_X1_51 hd_X1_makePaper ⟨Nat.le_of_ble_eq_true rfl, Nat.le_of_ble_eq_true rfl⟩) TI_X1_makePaper TS_X1_makePaper (ct_closing G _ _) rfl rfl rfl (Nat.le_of_ble_eq_true rfl) dX1_closeHour_33 ⟨Nat.le_of_ble_eq_true rfl, Nat.le_of_ble_eq_true rfl⟩) hS (fun v_18 s_20 t_21 H locs w_19 hR hS => ?_)
    try dsimp only [po_X1_makePaper] at w_19
    have f_22 := w_19
    refine gov (runV (As := [.int hr, .long v_18]) (rest := []) hC hK hR hl.1 (c_X1_tellXs l hG s_20 t_21 hr v_18 ) (call_b hC.ts TC_X1_tellXs TN_X1 TM_X1_55 hd_X1_tellXs ⟨Nat.le_of_ble_eq_true rfl, Nat.le_of_ble_eq_true rfl⟩) TI_X1_tellXs TS_X1_tellXs (ct_closing G _ _) rfl rfl rfl (Nat.le_of_ble_eq_true rfl) dX1_closeHour_36 ⟨Nat.le_of_ble_eq_true rfl, Nat.le_of_ble_eq_true rfl⟩) hS (fun s_25 t_26 H locs w_24 hR hS => ?_)
    try dsimp only [po_X1_tellXs] at w_24
    have f_27 := w_24
    refine lv_aload_n hC.x hC.b dX1_closeHour_39 rfl (lv_at hl 1 rfl) ?_
    refine lv_iload_n hC.x hC.b dX1_closeHour_40 rfl (lv_at hl 2 rfl) ?_
    refine lv_iload_n hC.x hC.b dX1_closeHour_41 rfl (lv_at hl 4 rfl) ?_
    refine gov (runV (As := [.int hr, .int ti]) (rest := []) hC hK hR hl.1 (c_X1_judgeAll l hG s_25 t_26 hr ti (by first | omega | assumption)) (call_b hC.ts TC_X1_judgeAll TN_X1 TM_X1_59 hd_X1_judgeAll ⟨Nat.le_of_ble_eq_true rfl, Nat.le_of_ble_eq_true rfl⟩) TI_X1_judgeAll TS_X1_judgeAll (ct_closing G _ _) rfl rfl rfl (Nat.le_of_ble_eq_true rfl) dX1_closeHour_42 ⟨Nat.le_of_ble_eq_true rfl, Nat.le_of_ble_eq_true rfl⟩) hS (fun s_30 t_31 H locs w_29 hR hS => ?_)
    try dsimp only [po_X1_judgeAll] at w_29
    have f_32 := w_29
    refine lv_aload_n hC.x hC.b dX1_closeHour_45 rfl (lv_at hl 1 rfl) ?_
    refine rget hC hK hR (ct_closing G _ _) rfl uin_X1 2 (by decide) TF_X1_27 rfl dX1_closeHour_46 ?_
    refine lv_iconst (v := 0) hC.x hC.b dX1_closeHour_49 (by decide) ?_
    refine lv_iload_n hC.x hC.b dX1_closeHour_50 rfl (lv_at hl 2 rfl) ?_
    refine lv_aload hC.x hC.b dX1_closeHour_51 (lv_at hl 0 rfl) ?_
    refine rget hC hK hR (ct_clock hq_6 G _ _) rfl uin_X0 0 (by decide) TF_X1_62 rfl dX1_closeHour_53 ?_
    have av_33 : (0 : Int32).toInt = 0 := by decide
    have av_34 : (nI j_5).toInt = ((j_5 : Nat) : Int) := (nI_T _ (by omega))
    refine gov (runV (As := [.int (0 : Int32), .int hr, .int (nI j_5)]) (rest := []) hC hK hR hl.1 (c_X7_tellPaper l hG s_30 t_31 (0 : Int32) hr (nI j_5) ) (call_b hC.ts TC_X7_tellPaper TN_X7 TM_X1_67 hd_X7_tellPaper ⟨Nat.le_of_ble_eq_true rfl, Nat.le_of_ble_eq_true rfl⟩) TI_X7_tellPaper TS_X7_tellPaper (ct_told G _ _) rfl rfl rfl (Nat.le_of_ble_eq_true rfl) dX1_closeHour_56 ⟨Nat.le_of_ble_eq_true rfl, Nat.le_of_ble_eq_true rfl⟩) hS (fun s_37 t_38 H locs w_36 hR hS => ?_)
    try dsimp only [po_X7_tellPaper] at w_36
    have f_39 := w_36
    refine lv_aload_n hC.x hC.b dX1_closeHour_59 rfl (lv_at hl 1 rfl) ?_
    refine rget hC hK hR (ct_closing G _ _) rfl uin_X1 2 (by decide) TF_X1_27 rfl dX1_closeHour_60 ?_
    refine lv_iconst (v := 1) hC.x hC.b dX1_closeHour_63 (by decide) ?_
    refine lv_iload_n hC.x hC.b dX1_closeHour_64 rfl (lv_at hl 2 rfl) ?_
    refine lv_aload_n hC.x hC.b dX1_closeHour_65 rfl (lv_at hl 1 rfl) ?_
    refine rget hC hK hR (ct_closing G _ _) rfl uin_X1 6 (by decide) TF_X1_15 rfl dX1_closeHour_66 ?_
    have av_40 : (1 : Int32).toInt = 1 := by decide
    refine gov (runV (As := [.int (1 : Int32), .int hr, .int (s_37 21 6)]) (rest := []) hC hK hR hl.1 (c_X7_tellPaper l hG s_37 t_38 (1 : Int32) hr (s_37 21 6) ) (call_b hC.ts TC_X7_tellPaper TN_X7 TM_X1_67 hd_X7_tellPaper ⟨Nat.le_of_ble_eq_true rfl, Nat.le_of_ble_eq_true rfl⟩) TI_X7_tellPaper TS_X7_tellPaper (ct_told G _ _) rfl rfl rfl (Nat.le_of_ble_eq_true rfl) dX1_closeHour_69 ⟨Nat.le_of_ble_eq_true rfl, Nat.le_of_ble_eq_true rfl⟩) hS (fun s_43 t_44 H locs w_42 hR hS => ?_)
    try dsimp only [po_X7_tellPaper] at w_42
    have f_45 := w_42
    refine lv_aload_n hC.x hC.b dX1_closeHour_72 rfl (lv_at hl 1 rfl) ?_
    refine rget hC hK hR (ct_closing G _ _) rfl uin_X1 2 (by decide) TF_X1_27 rfl dX1_closeHour_73 ?_
    refine lv_iconst (v := 5) hC.x hC.b dX1_closeHour_76 (by decide) ?_
    refine lv_iload_n hC.x hC.b dX1_closeHour_77 rfl (lv_at hl 2 rfl) ?_
    refine lv_iload_n hC.x hC.b dX1_closeHour_78 rfl (lv_at hl 3 rfl) ?_
    have av_46 : (5 : Int32).toInt = 5 := by decide
    refine gov (runV (As := [.int (5 : Int32), .int hr, .int pa]) (rest := []) hC hK hR hl.1 (c_X7_tellPaper l hG s_43 t_44 (5 : Int32) hr pa ) (call_b hC.ts TC_X7_tellPaper TN_X7 TM_X1_67 hd_X7_tellPaper ⟨Nat.le_of_ble_eq_true rfl, Nat.le_of_ble_eq_true rfl⟩) TI_X7_tellPaper TS_X7_tellPaper (ct_told G _ _) rfl rfl rfl (Nat.le_of_ble_eq_true rfl) dX1_closeHour_79 ⟨Nat.le_of_ble_eq_true rfl, Nat.le_of_ble_eq_true rfl⟩) hS (fun s_49 t_50 H locs w_48 hR hS => ?_)
    try dsimp only [po_X7_tellPaper] at w_48
    have f_51 := w_48
    refine lv_aload_n hC.x hC.b dX1_closeHour_82 rfl (lv_at hl 1 rfl) ?_
    refine rget hC hK hR (ct_closing G _ _) rfl uin_X1 6 (by decide) TF_X1_15 rfl dX1_closeHour_83 ?_
    exact reti hC hK hR hS (by exact (CF.tr (CF.tr (CF.tr (CF.tr (CF.tr (CF.tr (CF.tr (CF.tr (by rw [es_1]; exact CF.up (CF.rf) (by omega)) f_12) f_17) f_22) f_27) f_32) f_39) f_45) f_51)) dX1_closeHour_86
