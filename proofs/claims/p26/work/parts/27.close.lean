abbrev po_X10_looks (σ : SI) (τ : SL) (pl : Int32) (q : Nat) (ma : Int32) : SI × SL → Prop := fun u => ((MRel (fun k => k = 41 ∨ (44 ≤ k ∧ k ≤ 46) ∨ (65 ≤ k ∧ k ≤ 67)) (fun j => j = 37) σ u.1) ∧ (KM u.1))
set_option maxRecDepth 100000 in
set_option maxHeartbeats 4000000 in
theorem c_X10_looks (l : Launch) {G : Gx} {A : Nat → Prop} (hG : GOk G A) (σ : SI) (τ : SL) (pl : Int32) (q : Nat) (hp_q : pl.toInt.toNat = q) (ma : Int32) (hnw : 0 ≤ (σ 35 29).toInt ∧ (σ 35 29).toInt ≤ 200) (hin : 0 ≤ pl.toInt ∧ pl.toInt < 24) (hkm : KM σ) : MV l G A 3 yX10_looks cX10_looks 11 none [.ref (G.2.1 35), .int pl, .int ma] (σ, τ) (po_X10_looks σ τ pl q ma) := by
  refine met_of (own := RX10) (by decide +kernel) rfl [(0, .ref (G.2.1 35)), (1, .int pl), (2, .int ma)] rfl (Nat.le_of_ble_eq_true rfl) ?_
  intro p e s m args below meth c ls hC hK hR hl
  have hS : va_S A s.heap s.heap [] := va_S.rf
  refine lv_lconst (v := 0) hC.x hC.b dX10_looks_0 (by decide) ?_
  refine lv_lstore_n (lv' := [(3, .long (0 : Int64)), (0, .ref (G.2.1 35)), (1, .int pl), (2, .int ma)]) hC.x hC.b dX10_looks_1 rfl hl (by decide) rfl (fun ls hl => ?_)
  refine lv_iconst (v := 0) hC.x hC.b dX10_looks_2 (by decide) ?_
  refine lv_istore (lv' := [(5, .int (0 : Int32)), (3, .long (0 : Int64)), (0, .ref (G.2.1 35)), (1, .int pl), (2, .int ma)]) hC.x hC.b dX10_looks_3 hl (by decide) rfl (fun ls hl => ?_)
  refine lv_aload_n hC.x hC.b dX10_looks_5 rfl (lv_at hl 2 rfl) ?_
  refine rget hC hK hR (ct_model G _ _) rfl uin_X10 29 (by decide) TF_X10_137 rfl dX10_looks_6 ?_
  refine lv_aload_n hC.x hC.b dX10_looks_9 rfl (lv_at hl 2 rfl) ?_
  refine rget hC hK hR (ct_model G _ _) rfl uin_X10 2 (by decide) TF_X10_16 rfl dX10_looks_10 ?_
  refine lv_iload_n hC.x hC.b dX10_looks_13 rfl (lv_at hl 3 rfl) ?_
  refine ald hC hK hR (ct_m_two G _ _) rfl (by omega) (by omega) hp_q dX10_looks_14 ?_
  refine lv_isub hC.x hC.b dX10_looks_15 ?_
  refine lv_istore (lv' := [(6, .int ((σ 35 29) - (σ 38 q))), (5, .int (0 : Int32)), (3, .long (0 : Int64)), (0, .ref (G.2.1 35)), (1, .int pl), (2, .int ma)]) hC.x hC.b dX10_looks_16 hl (by decide) rfl (fun ls hl => ?_)
  have L_18 : ∀ (F : Nat) (x3 : Int64) (x5 : Int32) (t : Int32), (((σ 35 29).toInt - t.toInt).toNat) < F → ∀ (H : Heap) (locs : List Loc) (ls : Array Slot), RepH G σ τ H → va_S A s.heap H locs → lv_has ls 11 [(0, .ref (G.2.1 35)), (1, .int pl), (2, .int ma), (3, .long x3), (5, .int x5), (6, .int t)] → W p l e (rmD 3) s m args below meth c H locs 0 0 (MQ below (va_Qv (po_X10_looks σ τ pl q ma) (BU G) A) args s 0 0 A) (F0 m 18 ls []) := by
    intro F
    induction F with
    | zero => intro x3 x5 t hm; exact absurd hm (Nat.not_lt_zero _)
    | succ F ih_18 =>
      intro x3 x5 t hm_18  H locs ls hR hS hl
      have tlo := i32_lo t
      refine lv_iload hC.x hC.b dX10_looks_18 (lv_at hl 5 rfl) ?_
      refine lv_aload_n hC.x hC.b dX10_looks_20 rfl (lv_at hl 0 rfl) ?_
      refine rget hC hK hR (ct_model G _ _) rfl uin_X10 29 (by decide) TF_X10_137 rfl dX10_looks_21 ?_
      refine bi_ge (tgt := 68) (a := t.toInt) (b := (σ 35 29).toInt) hC.x hC.b rfl rfl dX10_looks_24 (by decide) (fun c_1 => ?_) (fun c_1 => ?_)
      · skip
        have L_84 : ∀ (x6 : Int64), ∀ (H : Heap) (locs : List Loc) (ls : Array Slot), RepH G σ τ H → va_S A s.heap H locs → lv_has ls 11 [(0, .ref (G.2.1 35)), (1, .int pl), (2, .int ma), (6, .long x6)] → W p l e (rmD 3) s m args below meth c H locs 0 0 (MQ below (va_Qv (po_X10_looks σ τ pl q ma) (BU G) A) args s 0 0 A) (F0 m 84 ls []) := by
          intro x6  H locs ls hR hS hl
          have L_202 : ∀ (s6 : SI) (t6 : SL), (KM s6) → (MRel (fun k => k = 41 ∨ (44 ≤ k ∧ k ≤ 46) ∨ (65 ≤ k ∧ k ≤ 67)) (fun j => j = 37) σ s6) → ∀ (H : Heap) (locs : List Loc) (ls : Array Slot), RepH G s6 t6 H → va_S A s.heap H locs → lv_has ls 11 [(0, .ref (G.2.1 35)), (1, .int pl), (2, .int ma)] → W p l e (rmD 3) s m args below meth c H locs 0 0 (MQ below (va_Qv (po_X10_looks σ τ pl q ma) (BU G) A) args s 0 0 A) (F0 m 202 ls []) := by
            intro s6 t6 hi0_202 hi1_202 H locs ls hR hS hl
            have L_213 : ∀ (x8 : Int32), ∀ (H : Heap) (locs : List Loc) (ls : Array Slot), RepH G s6 t6 H → va_S A s.heap H locs → lv_has ls 11 [(0, .ref (G.2.1 35)), (1, .int pl), (2, .int ma), (8, .int x8)] → W p l e (rmD 3) s m args below meth c H locs 0 0 (MQ below (va_Qv (po_X10_looks σ τ pl q ma) (BU G) A) args s 0 0 A) (F0 m 213 ls []) := by
              intro x8  H locs ls hR hS hl
              refine lv_iload_n hC.x hC.b dX10_looks_213 rfl (lv_at hl 2 rfl) ?_
              refine lv_istore (lv' := [(9, .int ma), (0, .ref (G.2.1 35)), (1, .int pl), (2, .int ma), (8, .int x8)]) hC.x hC.b dX10_looks_214 hl (by decide) rfl (fun ls hl => ?_)
              refine lv_aload_n hC.x hC.b dX10_looks_216 rfl (lv_at hl 1 rfl) ?_
              refine rget hC hK hR (ct_model G _ _) rfl uin_X10 29 (by decide) TF_X10_137 rfl dX10_looks_217 ?_
              have rd_2 : (s6 35 29).toInt = (σ 35 29).toInt := congrArg Int32.toInt (show s6 35 29 = σ 35 29 from hi1_202.2 29 (by first | omega | (dsimp only; omega)))
              refine lv_iconst (v := 1) hC.x hC.b dX10_looks_220 (by decide) ?_
              refine lv_isub hC.x hC.b dX10_looks_221 ?_
              have pr_3 : ((s6 35 29) - (1 : Int32)).toInt = ((s6 35 29).toInt - 1) := subI rfl rfl (by omega) (by omega)
              refine lv_topi (fun x_4 ex_5 => ?_)
              have pr_6 : x_4.toInt = ((s6 35 29).toInt - 1) := by rw [ex_5]; exact pr_3
              refine lv_istore (lv' := [(10, .int x_4), (9, .int ma), (0, .ref (G.2.1 35)), (1, .int pl), (2, .int ma), (8, .int x8)]) hC.x hC.b dX10_looks_222 hl (by decide) rfl (fun ls hl => ?_)
              have L_224 : ∀ (F : Nat) (x8 : Int32) (x9 : Int32) (t : Int32) (s1 : SI), ((t.toInt + 4).toNat) < F → (KM s1) → (t.toInt ≤ 199) → (MRel (fun k => k = 41 ∨ (44 ≤ k ∧ k ≤ 46) ∨ (65 ≤ k ∧ k ≤ 67)) (fun j => j = 37) σ s1) → ∀ (H : Heap) (locs : List Loc) (ls : Array Slot), RepH G s1 t6 H → va_S A s.heap H locs → lv_has ls 11 [(0, .ref (G.2.1 35)), (1, .int pl), (2, .int ma), (8, .int x8), (9, .int x9), (10, .int t)] → W p l e (rmD 3) s m args below meth c H locs 0 0 (MQ below (va_Qv (po_X10_looks σ τ pl q ma) (BU G) A) args s 0 0 A) (F0 m 224 ls []) := by
                intro F
                induction F with
                | zero => intro x8 x9 t s1 hm; exact absurd hm (Nat.not_lt_zero _)
                | succ F ih_224 =>
                  intro x8 x9 t s1 hm_224 hi0_224 hi1_224 hi2_224 H locs ls hR hS hl
                  refine lv_iload hC.x hC.b dX10_looks_224 (lv_at hl 5 rfl) ?_
                  refine lv_aload_n hC.x hC.b dX10_looks_226 rfl (lv_at hl 0 rfl) ?_
                  refine rget hC hK hR (ct_model G _ _) rfl uin_X10 29 (by decide) TF_X10_137 rfl dX10_looks_227 ?_
                  have rd_7 : (s1 35 29).toInt = (σ 35 29).toInt := congrArg Int32.toInt (show s1 35 29 = σ 35 29 from hi2_224.2 29 (by first | omega | (dsimp only; omega)))
                  refine lv_iconst (v := 3) hC.x hC.b dX10_looks_230 (by decide) ?_
                  refine lv_isub hC.x hC.b dX10_looks_231 ?_
                  have pr_8 : ((s1 35 29) - (3 : Int32)).toInt = ((s1 35 29).toInt - 3) := subI rfl rfl (by omega) (by omega)
                  refine bi_lt (tgt := 352) (a := t.toInt) (b := ((s1 35 29).toInt - 3)) hC.x hC.b rfl pr_8 dX10_looks_232 (by decide) (fun c_9 => ?_) (fun c_9 => ?_)
                  · skip
                    refine lv_aload_n hC.x hC.b dX10_looks_352 rfl (lv_at hl 0 rfl) ?_
                    refine rget hC hK hR (ct_model G _ _) rfl uin_X10 10 (by decide) TF_X10_41 rfl dX10_looks_353 ?_
                    refine lv_iload_n hC.x hC.b dX10_looks_356 rfl (lv_at hl 1 rfl) ?_
                    refine lv_dup2_11 hC.x hC.b dX10_looks_357 rfl rfl ?_
                    refine ald hC hK hR (ct_m_drifts G _ _) rfl (by omega) (by omega) hp_q dX10_looks_358 ?_
                    refine lv_iload hC.x hC.b dX10_looks_359 (lv_at hl 3 rfl) ?_
                    refine bz_eq (tgt := 368) (a := x8.toInt) (b := 0) hC.x hC.b rfl rfl dX10_looks_361 (by decide) (fun c_10 => ?_) (fun c_10 => ?_)
                    · skip
                      refine lv_iconst (v := 0) hC.x hC.b dX10_looks_368 (by decide) ?_
                      refine lv_iadd hC.x hC.b dX10_looks_369 ?_
                      refine ast hC hK hG hR hS (fun _ => ct_m_drifts G _ _) rfl (by omega) (by omega) hp_q dX10_looks_370 (fun s_11 es_12 H locs hR hS => ?_)
                      exact retv hC hK hR hS (⟨by exact (by rw [es_12]; exact MRel.up (hi2_224) (by omega) (by first | omega | (dsimp only; omega))), by exact (by rw [es_12]; exact KM.up hi0_224 (by omega))⟩) dX10_looks_371
                    · skip
                      refine lv_iconst (v := 1) hC.x hC.b dX10_looks_364 (by decide) ?_
                      refine lv_goto (tgt := 369) hC.x hC.b dX10_looks_365 (by decide) ?_
                      refine lv_iadd hC.x hC.b dX10_looks_369 ?_
                      refine ast hC hK hG hR hS (fun _ => ct_m_drifts G _ _) rfl (by omega) (by omega) hp_q dX10_looks_370 (fun s_13 es_14 H locs hR hS => ?_)
                      exact retv hC hK hR hS (⟨by exact (by rw [es_14]; exact MRel.up (hi2_224) (by omega) (by first | omega | (dsimp only; omega))), by exact (by rw [es_14]; exact KM.up hi0_224 (by omega))⟩) dX10_looks_371
                  · skip
                    refine lv_iload hC.x hC.b dX10_looks_235 (lv_at hl 3 rfl) ?_
                    refine bz_eq (tgt := 352) (a := x8.toInt) (b := 0) hC.x hC.b rfl rfl dX10_looks_237 (by decide) (fun c_15 => ?_) (fun c_15 => ?_)
                    · skip
                      refine lv_aload_n hC.x hC.b dX10_looks_352 rfl (lv_at hl 0 rfl) ?_
                      refine rget hC hK hR (ct_model G _ _) rfl uin_X10 10 (by decide) TF_X10_41 rfl dX10_looks_353 ?_
                      refine lv_iload_n hC.x hC.b dX10_looks_356 rfl (lv_at hl 1 rfl) ?_
                      refine lv_dup2_11 hC.x hC.b dX10_looks_357 rfl rfl ?_
                      refine ald hC hK hR (ct_m_drifts G _ _) rfl (by omega) (by omega) hp_q dX10_looks_358 ?_
                      refine lv_iload hC.x hC.b dX10_looks_359 (lv_at hl 3 rfl) ?_
                      refine bz_eq (tgt := 368) (a := x8.toInt) (b := 0) hC.x hC.b rfl rfl dX10_looks_361 (by decide) (fun c_16 => ?_) (fun c_16 => ?_)
                      · skip
                        refine lv_iconst (v := 0) hC.x hC.b dX10_looks_368 (by decide) ?_
                        refine lv_iadd hC.x hC.b dX10_looks_369 ?_
                        refine ast hC hK hG hR hS (fun _ => ct_m_drifts G _ _) rfl (by omega) (by omega) hp_q dX10_looks_370 (fun s_17 es_18 H locs hR hS => ?_)
                        exact retv hC hK hR hS (⟨by exact (by rw [es_18]; exact MRel.up (hi2_224) (by omega) (by first | omega | (dsimp only; omega))), by exact (by rw [es_18]; exact KM.up hi0_224 (by omega))⟩) dX10_looks_371
                      · skip
                        refine lv_iconst (v := 1) hC.x hC.b dX10_looks_364 (by decide) ?_
                        refine lv_goto (tgt := 369) hC.x hC.b dX10_looks_365 (by decide) ?_
                        refine lv_iadd hC.x hC.b dX10_looks_369 ?_
                        refine ast hC hK hG hR hS (fun _ => ct_m_drifts G _ _) rfl (by omega) (by omega) hp_q dX10_looks_370 (fun s_19 es_20 H locs hR hS => ?_)
                        exact retv hC hK hR hS (⟨by exact (by rw [es_20]; exact MRel.up (hi2_224) (by omega) (by first | omega | (dsimp only; omega))), by exact (by rw [es_20]; exact KM.up hi0_224 (by omega))⟩) dX10_looks_371
                    · skip
                      have L_327 : ∀ (y8 : Int32), (y8.toInt = 0 ∨ 0 ≤ t.toInt) → ∀ (H : Heap) (locs : List Loc) (ls : Array Slot), RepH G s1 t6 H → va_S A s.heap H locs → lv_has ls 11 [(0, .ref (G.2.1 35)), (1, .int pl), (2, .int ma), (8, .int y8), (9, .int x9), (10, .int t)] → W p l e (rmD 3) s m args below meth c H locs 0 0 (MQ below (va_Qv (po_X10_looks σ τ pl q ma) (BU G) A) args s 0 0 A) (F0 m 327 ls []) := by
                        intro y8 hi0_327 H locs ls hR hS hl
                        have L_346 : ∀ (y9 : Int32), ∀ (H : Heap) (locs : List Loc) (ls : Array Slot), RepH G s1 t6 H → va_S A s.heap H locs → lv_has ls 11 [(0, .ref (G.2.1 35)), (1, .int pl), (2, .int ma), (8, .int y8), (9, .int y9), (10, .int t)] → W p l e (rmD 3) s m args below meth c H locs 0 0 (MQ below (va_Qv (po_X10_looks σ τ pl q ma) (BU G) A) args s 0 0 A) (F0 m 346 ls []) := by
                          intro y9  H locs ls hR hS hl
                          obtain ⟨x_21, ex_22⟩ : ∃ y : Int32, y = t + (-1) := ⟨_, rfl⟩
                          have pr_23 : x_21.toInt = t.toInt + (-1) := by rw [ex_22]; exact addI rfl rfl (by omega) (by omega)
                          refine lv_iinc (v := x_21) (lv' := [(10, .int x_21), (0, .ref (G.2.1 35)), (1, .int pl), (2, .int ma), (8, .int y8), (9, .int y9)]) hC.x hC.b dX10_looks_346 hl (k := 5) rfl ex_22.symm (by decide) rfl (fun ls hl => ?_)
                          refine lv_goto (tgt := 224) hC.x hC.b dX10_looks_349 (by decide) ?_
                          exact ih_224 y8 y9 x_21 s1 (by omega) (by exact hi0_224) (by first | omega | assumption) hi2_224 _ _ _ hR hS (lv_sub hl [1, 2, 3, 4, 5, 0] rfl)
                        refine lv_iload hC.x hC.b dX10_looks_327 (lv_at hl 3 rfl) ?_
                        refine bz_eq (tgt := 346) (a := y8.toInt) (b := 0) hC.x hC.b rfl rfl dX10_looks_329 (by decide) (fun c_24 => ?_) (fun c_24 => ?_)
                        · skip
                          exact L_346 x9  _ _ _ hR hS (lv_sub hl [0, 1, 2, 3, 4, 5] rfl)
                        · skip
                          refine lv_aload_n hC.x hC.b dX10_looks_332 rfl (lv_at hl 0 rfl) ?_
                          refine rget hC hK hR (ct_model G _ _) rfl uin_X10 20 (by decide) TF_X10_71 rfl dX10_looks_333 ?_
                          refine lv_aload_n hC.x hC.b dX10_looks_336 rfl (lv_at hl 0 rfl) ?_
                          refine lv_iload hC.x hC.b dX10_looks_337 (lv_at hl 5 rfl) ?_
                          refine lv_iload_n hC.x hC.b dX10_looks_339 rfl (lv_at hl 1 rfl) ?_
                          refine goip (runV (As := [.int t, .int pl]) (rest := [.ref (G.2.1 56)]) hC hK hR hl.1 (c_X10_at l hG s1 t6 t t.toInt.toNat rfl pl q (by first | rfl | (rw [show pl.toInt = pl.toInt from rfl]; done) | (rw [show pl.toInt = pl.toInt from rfl]; exact hp_q)) (by omega) (by omega)) (call_b hC.ts TC_X10_at TN_X10 TM_X10_140 hd_X10_at ⟨Nat.le_of_ble_eq_true rfl, Nat.le_of_ble_eq_true rfl⟩) TI_X10_at TS_X10_at (ct_model G _ _) rfl rfl rfl (Nat.le_of_ble_eq_true rfl) dX10_looks_340 ⟨Nat.le_of_ble_eq_true rfl, Nat.le_of_ble_eq_true rfl⟩) hS (fun v_25 H locs w_26 hR hS => ?_)
                          subst w_26
                          refine ald hC hK hR (ct_m_ms G _ _) (nI_T _ (by omega)) (by omega) (by omega) (Int.toNat_natCast _) dX10_looks_343 ?_
                          have rd_27 : (s1 56 (24 * t.toInt.toNat + q)).toInt = (σ 56 (24 * t.toInt.toNat + q)).toInt := congrArg Int32.toInt (show s1 56 (24 * t.toInt.toNat + q) = σ 56 (24 * t.toInt.toNat + q) from congrFun (hi2_224.1 56 (by omega) (by first | omega | (dsimp only; omega) | (intro h; exact h))) (24 * t.toInt.toNat + q))
                          refine lv_topi (fun x_28 ex_29 => ?_)
                          refine lv_istore (lv' := [(9, .int x_28), (0, .ref (G.2.1 35)), (1, .int pl), (2, .int ma), (8, .int y8), (10, .int t)]) hC.x hC.b dX10_looks_344 hl (by decide) rfl (fun ls hl => ?_)
                          exact L_346 x_28  _ _ _ hR hS (lv_sub hl [1, 2, 3, 4, 0, 5] rfl)
                      refine lv_aload_n hC.x hC.b dX10_looks_240 rfl (lv_at hl 0 rfl) ?_
                      refine lv_iload hC.x hC.b dX10_looks_241 (lv_at hl 5 rfl) ?_
                      refine lv_iload_n hC.x hC.b dX10_looks_243 rfl (lv_at hl 1 rfl) ?_
                      have rd_30 : (s1 35 29).toInt = (σ 35 29).toInt := congrArg Int32.toInt (show s1 35 29 = σ 35 29 from hi2_224.2 29 (by first | omega | (dsimp only; omega)))
                      refine goip (runV (As := [.int t, .int pl]) (rest := []) hC hK hR hl.1 (c_X10_isMissed l hG s1 t6 t t.toInt.toNat rfl pl q (by first | rfl | (rw [show pl.toInt = pl.toInt from rfl]; done) | (rw [show pl.toInt = pl.toInt from rfl]; exact hp_q)) (by first | assumption | omega) (by omega)) (call_b hC.ts TC_X10_isMissed TN_X10 TM_X10_214 hd_X10_isMissed ⟨Nat.le_of_ble_eq_true rfl, Nat.le_of_ble_eq_true rfl⟩) TI_X10_isMissed TS_X10_isMissed (ct_model G _ _) rfl rfl rfl (Nat.le_of_ble_eq_true rfl) dX10_looks_244 ⟨Nat.le_of_ble_eq_true rfl, Nat.le_of_ble_eq_true rfl⟩) hS (fun v_31 H locs w_32 hR hS => ?_)
                      rcases w_32 with ⟨rfl, f_33, f_34⟩ | rfl
                      · skip
                        refine bz_eq (tgt := 324) (a := 1) (b := 0) hC.x hC.b rfl rfl dX10_looks_247 (by decide) (fun c_35 => absurd c_35 (by decide)) (fun _ => ?_)
                        refine lv_aload_n hC.x hC.b dX10_looks_250 rfl (lv_at hl 0 rfl) ?_
                        refine rget hC hK hR (ct_model G _ _) rfl uin_X10 20 (by decide) TF_X10_71 rfl dX10_looks_251 ?_
                        refine lv_aload_n hC.x hC.b dX10_looks_254 rfl (lv_at hl 0 rfl) ?_
                        refine lv_iload hC.x hC.b dX10_looks_255 (lv_at hl 5 rfl) ?_
                        refine lv_iload_n hC.x hC.b dX10_looks_257 rfl (lv_at hl 1 rfl) ?_
                        refine goip (runV (As := [.int t, .int pl]) (rest := [.ref (G.2.1 56)]) hC hK hR hl.1 (c_X10_at l hG s1 t6 t t.toInt.toNat rfl pl q (by first | rfl | (rw [show pl.toInt = pl.toInt from rfl]; done) | (rw [show pl.toInt = pl.toInt from rfl]; exact hp_q)) (by omega) (by omega)) (call_b hC.ts TC_X10_at TN_X10 TM_X10_140 hd_X10_at ⟨Nat.le_of_ble_eq_true rfl, Nat.le_of_ble_eq_true rfl⟩) TI_X10_at TS_X10_at (ct_model G _ _) rfl rfl rfl (Nat.le_of_ble_eq_true rfl) dX10_looks_258 ⟨Nat.le_of_ble_eq_true rfl, Nat.le_of_ble_eq_true rfl⟩) hS (fun v_36 H locs w_37 hR hS => ?_)
                        subst w_37
                        refine ald hC hK hR (ct_m_ms G _ _) (nI_T _ (by omega)) (by omega) (by omega) (Int.toNat_natCast _) dX10_looks_261 ?_
                        have rd_38 : (s1 56 (24 * t.toInt.toNat + q)).toInt = (σ 56 (24 * t.toInt.toNat + q)).toInt := congrArg Int32.toInt (show s1 56 (24 * t.toInt.toNat + q) = σ 56 (24 * t.toInt.toNat + q) from congrFun (hi2_224.1 56 (by omega) (by first | omega | (dsimp only; omega) | (intro h; exact h))) (24 * t.toInt.toNat + q))
                        refine bz_le (tgt := 269) (a := (s1 56 (24 * t.toInt.toNat + q)).toInt) (b := 0) hC.x hC.b rfl rfl dX10_looks_262 (by decide) (fun c_39 => ?_) (fun c_39 => ?_)
                        · skip
                          refine lv_iconst (v := 0) hC.x hC.b dX10_looks_269 (by decide) ?_
                          refine lv_iload_n hC.x hC.b dX10_looks_270 rfl (lv_at hl 2 rfl) ?_
                          refine bz_le (tgt := 278) (a := ma.toInt) (b := 0) hC.x hC.b rfl rfl dX10_looks_271 (by decide) (fun c_40 => ?_) (fun c_40 => ?_)
                          · skip
                            refine lv_iconst (v := 0) hC.x hC.b dX10_looks_278 (by decide) ?_
                            refine bi_ne (tgt := 324) (a := 0) (b := 0) hC.x hC.b rfl rfl dX10_looks_279 (by decide) (fun c_41 => absurd c_41 (by decide)) (fun _ => ?_)
                            refine lv_aload_n hC.x hC.b dX10_looks_282 rfl (lv_at hl 0 rfl) ?_
                            refine rget hC hK hR (ct_model G _ _) rfl uin_X10 20 (by decide) TF_X10_71 rfl dX10_looks_283 ?_
                            refine lv_aload_n hC.x hC.b dX10_looks_286 rfl (lv_at hl 0 rfl) ?_
                            refine lv_iload hC.x hC.b dX10_looks_287 (lv_at hl 5 rfl) ?_
                            refine lv_iload_n hC.x hC.b dX10_looks_289 rfl (lv_at hl 1 rfl) ?_
                            refine goip (runV (As := [.int t, .int pl]) (rest := [.ref (G.2.1 56)]) hC hK hR hl.1 (c_X10_at l hG s1 t6 t t.toInt.toNat rfl pl q (by first | rfl | (rw [show pl.toInt = pl.toInt from rfl]; done) | (rw [show pl.toInt = pl.toInt from rfl]; exact hp_q)) (by omega) (by omega)) (call_b hC.ts TC_X10_at TN_X10 TM_X10_140 hd_X10_at ⟨Nat.le_of_ble_eq_true rfl, Nat.le_of_ble_eq_true rfl⟩) TI_X10_at TS_X10_at (ct_model G _ _) rfl rfl rfl (Nat.le_of_ble_eq_true rfl) dX10_looks_290 ⟨Nat.le_of_ble_eq_true rfl, Nat.le_of_ble_eq_true rfl⟩) hS (fun v_42 H locs w_43 hR hS => ?_)
                            subst w_43
                            refine ald hC hK hR (ct_m_ms G _ _) (nI_T _ (by omega)) (by omega) (by omega) (Int.toNat_natCast _) dX10_looks_293 ?_
                            have rd_44 : (s1 56 (24 * t.toInt.toNat + q)).toInt = (σ 56 (24 * t.toInt.toNat + q)).toInt := congrArg Int32.toInt (show s1 56 (24 * t.toInt.toNat + q) = σ 56 (24 * t.toInt.toNat + q) from congrFun (hi2_224.1 56 (by omega) (by first | omega | (dsimp only; omega) | (intro h; exact h))) (24 * t.toInt.toNat + q))
                            refine bz_eq (tgt := 324) (a := (s1 56 (24 * t.toInt.toNat + q)).toInt) (b := 0) hC.x hC.b rfl rfl dX10_looks_294 (by decide) (fun c_45 => ?_) (fun c_45 => ?_)
                            · skip
                              refine lv_iconst (v := 0) hC.x hC.b dX10_looks_324 (by decide) ?_
                              refine lv_istore (lv' := [(8, .int (0 : Int32)), (0, .ref (G.2.1 35)), (1, .int pl), (2, .int ma), (9, .int x9), (10, .int t)]) hC.x hC.b dX10_looks_325 hl (by decide) rfl (fun ls hl => ?_)
                              exact L_327 (0 : Int32) (by first | (left; decide) | (right; omega)) _ _ _ hR hS (lv_sub hl [1, 2, 3, 0, 4, 5] rfl)
                            · skip
                              refine lv_aload_n hC.x hC.b dX10_looks_297 rfl (lv_at hl 0 rfl) ?_
                              refine rget hC hK hR (ct_model G _ _) rfl uin_X10 20 (by decide) TF_X10_71 rfl dX10_looks_298 ?_
                              refine lv_aload_n hC.x hC.b dX10_looks_301 rfl (lv_at hl 0 rfl) ?_
                              refine lv_iload hC.x hC.b dX10_looks_302 (lv_at hl 5 rfl) ?_
                              refine lv_iload_n hC.x hC.b dX10_looks_304 rfl (lv_at hl 1 rfl) ?_
                              refine goip (runV (As := [.int t, .int pl]) (rest := [.ref (G.2.1 56)]) hC hK hR hl.1 (c_X10_at l hG s1 t6 t t.toInt.toNat rfl pl q (by first | rfl | (rw [show pl.toInt = pl.toInt from rfl]; done) | (rw [show pl.toInt = pl.toInt from rfl]; exact hp_q)) (by omega) (by omega)) (call_b hC.ts TC_X10_at TN_X10 TM_X10_140 hd_X10_at ⟨Nat.le_of_ble_eq_true rfl, Nat.le_of_ble_eq_true rfl⟩) TI_X10_at TS_X10_at (ct_model G _ _) rfl rfl rfl (Nat.le_of_ble_eq_true rfl) dX10_looks_305 ⟨Nat.le_of_ble_eq_true rfl, Nat.le_of_ble_eq_true rfl⟩) hS (fun v_46 H locs w_47 hR hS => ?_)
                              subst w_47
                              refine ald hC hK hR (ct_m_ms G _ _) (nI_T _ (by omega)) (by omega) (by omega) (Int.toNat_natCast _) dX10_looks_308 ?_
                              have rd_48 : (s1 56 (24 * t.toInt.toNat + q)).toInt = (σ 56 (24 * t.toInt.toNat + q)).toInt := congrArg Int32.toInt (show s1 56 (24 * t.toInt.toNat + q) = σ 56 (24 * t.toInt.toNat + q) from congrFun (hi2_224.1 56 (by omega) (by first | omega | (dsimp only; omega) | (intro h; exact h))) (24 * t.toInt.toNat + q))
                              refine goip (runS (As := [.int (s1 56 (24 * t.toInt.toNat + q))]) (rest := []) hC hK hR hl.1 (c_X10_amount l hG s1 t6 (s1 56 (24 * t.toInt.toNat + q)) ) (call_b hC.ts TC_X10_amount TN_X10 TM_X10_248 hd_X10_amount ⟨Nat.le_of_ble_eq_true rfl, Nat.le_of_ble_eq_true rfl⟩) TT_X10_amount rfl rfl (Nat.le_of_ble_eq_true rfl) dX10_looks_309 ⟨Nat.le_of_ble_eq_true rfl, Nat.le_of_ble_eq_true rfl⟩) hS (fun v_49 H locs w_50 hR hS => ?_)
                              refine lv_iload hC.x hC.b dX10_looks_312 (lv_at hl 4 rfl) ?_
                              refine goip (runS (As := [.int x9]) (rest := [.int v_49]) hC hK hR hl.1 (c_X10_amount l hG s1 t6 x9 ) (call_b hC.ts TC_X10_amount TN_X10 TM_X10_248 hd_X10_amount ⟨Nat.le_of_ble_eq_true rfl, Nat.le_of_ble_eq_true rfl⟩) TT_X10_amount rfl rfl (Nat.le_of_ble_eq_true rfl) dX10_looks_314 ⟨Nat.le_of_ble_eq_true rfl, Nat.le_of_ble_eq_true rfl⟩) hS (fun v_51 H locs w_52 hR hS => ?_)
                              refine bi_ge (tgt := 324) (a := v_49.toInt) (b := v_51.toInt) hC.x hC.b rfl rfl dX10_looks_317 (by decide) (fun c_53 => ?_) (fun c_53 => ?_)
                              · skip
                                refine lv_iconst (v := 0) hC.x hC.b dX10_looks_324 (by decide) ?_
                                refine lv_istore (lv' := [(8, .int (0 : Int32)), (0, .ref (G.2.1 35)), (1, .int pl), (2, .int ma), (9, .int x9), (10, .int t)]) hC.x hC.b dX10_looks_325 hl (by decide) rfl (fun ls hl => ?_)
                                exact L_327 (0 : Int32) (by first | (left; decide) | (right; omega)) _ _ _ hR hS (lv_sub hl [1, 2, 3, 0, 4, 5] rfl)
                              · skip
                                refine lv_iconst (v := 1) hC.x hC.b dX10_looks_320 (by decide) ?_
                                refine lv_goto (tgt := 325) hC.x hC.b dX10_looks_321 (by decide) ?_
                                refine lv_istore (lv' := [(8, .int (1 : Int32)), (0, .ref (G.2.1 35)), (1, .int pl), (2, .int ma), (9, .int x9), (10, .int t)]) hC.x hC.b dX10_looks_325 hl (by decide) rfl (fun ls hl => ?_)
                                exact L_327 (1 : Int32) (by first | (left; decide) | (right; omega)) _ _ _ hR hS (lv_sub hl [1, 2, 3, 0, 4, 5] rfl)
                          · skip
                            refine lv_iconst (v := 1) hC.x hC.b dX10_looks_274 (by decide) ?_
                            refine lv_goto (tgt := 279) hC.x hC.b dX10_looks_275 (by decide) ?_
                            refine bi_ne (tgt := 324) (a := 0) (b := 1) hC.x hC.b rfl rfl dX10_looks_279 (by decide) (fun _ => ?_) (fun c_54 => absurd c_54 (by decide))
                            refine lv_iconst (v := 0) hC.x hC.b dX10_looks_324 (by decide) ?_
                            refine lv_istore (lv' := [(8, .int (0 : Int32)), (0, .ref (G.2.1 35)), (1, .int pl), (2, .int ma), (9, .int x9), (10, .int t)]) hC.x hC.b dX10_looks_325 hl (by decide) rfl (fun ls hl => ?_)
                            exact L_327 (0 : Int32) (by first | (left; decide) | (right; omega)) _ _ _ hR hS (lv_sub hl [1, 2, 3, 0, 4, 5] rfl)
                        · skip
                          refine lv_iconst (v := 1) hC.x hC.b dX10_looks_265 (by decide) ?_
                          refine lv_goto (tgt := 270) hC.x hC.b dX10_looks_266 (by decide) ?_
                          refine lv_iload_n hC.x hC.b dX10_looks_270 rfl (lv_at hl 2 rfl) ?_
                          refine bz_le (tgt := 278) (a := ma.toInt) (b := 0) hC.x hC.b rfl rfl dX10_looks_271 (by decide) (fun c_55 => ?_) (fun c_55 => ?_)
                          · skip
                            refine lv_iconst (v := 0) hC.x hC.b dX10_looks_278 (by decide) ?_
                            refine bi_ne (tgt := 324) (a := 1) (b := 0) hC.x hC.b rfl rfl dX10_looks_279 (by decide) (fun _ => ?_) (fun c_56 => absurd c_56 (by decide))
                            refine lv_iconst (v := 0) hC.x hC.b dX10_looks_324 (by decide) ?_
                            refine lv_istore (lv' := [(8, .int (0 : Int32)), (0, .ref (G.2.1 35)), (1, .int pl), (2, .int ma), (9, .int x9), (10, .int t)]) hC.x hC.b dX10_looks_325 hl (by decide) rfl (fun ls hl => ?_)
                            exact L_327 (0 : Int32) (by first | (left; decide) | (right; omega)) _ _ _ hR hS (lv_sub hl [1, 2, 3, 0, 4, 5] rfl)
                          · skip
                            refine lv_iconst (v := 1) hC.x hC.b dX10_looks_274 (by decide) ?_
                            refine lv_goto (tgt := 279) hC.x hC.b dX10_looks_275 (by decide) ?_
                            refine bi_ne (tgt := 324) (a := 1) (b := 1) hC.x hC.b rfl rfl dX10_looks_279 (by decide) (fun c_57 => absurd c_57 (by decide)) (fun _ => ?_)
                            refine lv_aload_n hC.x hC.b dX10_looks_282 rfl (lv_at hl 0 rfl) ?_
                            refine rget hC hK hR (ct_model G _ _) rfl uin_X10 20 (by decide) TF_X10_71 rfl dX10_looks_283 ?_
                            refine lv_aload_n hC.x hC.b dX10_looks_286 rfl (lv_at hl 0 rfl) ?_
                            refine lv_iload hC.x hC.b dX10_looks_287 (lv_at hl 5 rfl) ?_
                            refine lv_iload_n hC.x hC.b dX10_looks_289 rfl (lv_at hl 1 rfl) ?_
                            refine goip (runV (As := [.int t, .int pl]) (rest := [.ref (G.2.1 56)]) hC hK hR hl.1 (c_X10_at l hG s1 t6 t t.toInt.toNat rfl pl q (by first | rfl | (rw [show pl.toInt = pl.toInt from rfl]; done) | (rw [show pl.toInt = pl.toInt from rfl]; exact hp_q)) (by omega) (by omega)) (call_b hC.ts TC_X10_at TN_X10 TM_X10_140 hd_X10_at ⟨Nat.le_of_ble_eq_true rfl, Nat.le_of_ble_eq_true rfl⟩) TI_X10_at TS_X10_at (ct_model G _ _) rfl rfl rfl (Nat.le_of_ble_eq_true rfl) dX10_looks_290 ⟨Nat.le_of_ble_eq_true rfl, Nat.le_of_ble_eq_true rfl⟩) hS (fun v_58 H locs w_59 hR hS => ?_)
                            subst w_59
                            refine ald hC hK hR (ct_m_ms G _ _) (nI_T _ (by omega)) (by omega) (by omega) (Int.toNat_natCast _) dX10_looks_293 ?_
                            have rd_60 : (s1 56 (24 * t.toInt.toNat + q)).toInt = (σ 56 (24 * t.toInt.toNat + q)).toInt := congrArg Int32.toInt (show s1 56 (24 * t.toInt.toNat + q) = σ 56 (24 * t.toInt.toNat + q) from congrFun (hi2_224.1 56 (by omega) (by first | omega | (dsimp only; omega) | (intro h; exact h))) (24 * t.toInt.toNat + q))
                            refine bz_eq (tgt := 324) (a := (s1 56 (24 * t.toInt.toNat + q)).toInt) (b := 0) hC.x hC.b rfl rfl dX10_looks_294 (by decide) (fun c_61 => ?_) (fun c_61 => ?_)
                            · skip
                              refine lv_iconst (v := 0) hC.x hC.b dX10_looks_324 (by decide) ?_
                              refine lv_istore (lv' := [(8, .int (0 : Int32)), (0, .ref (G.2.1 35)), (1, .int pl), (2, .int ma), (9, .int x9), (10, .int t)]) hC.x hC.b dX10_looks_325 hl (by decide) rfl (fun ls hl => ?_)
                              exact L_327 (0 : Int32) (by first | (left; decide) | (right; omega)) _ _ _ hR hS (lv_sub hl [1, 2, 3, 0, 4, 5] rfl)
                            · skip
                              refine lv_aload_n hC.x hC.b dX10_looks_297 rfl (lv_at hl 0 rfl) ?_
                              refine rget hC hK hR (ct_model G _ _) rfl uin_X10 20 (by decide) TF_X10_71 rfl dX10_looks_298 ?_
                              refine lv_aload_n hC.x hC.b dX10_looks_301 rfl (lv_at hl 0 rfl) ?_
                              refine lv_iload hC.x hC.b dX10_looks_302 (lv_at hl 5 rfl) ?_
                              refine lv_iload_n hC.x hC.b dX10_looks_304 rfl (lv_at hl 1 rfl) ?_
                              refine goip (runV (As := [.int t, .int pl]) (rest := [.ref (G.2.1 56)]) hC hK hR hl.1 (c_X10_at l hG s1 t6 t t.toInt.toNat rfl pl q (by first | rfl | (rw [show pl.toInt = pl.toInt from rfl]; done) | (rw [show pl.toInt = pl.toInt from rfl]; exact hp_q)) (by omega) (by omega)) (call_b hC.ts TC_X10_at TN_X10 TM_X10_140 hd_X10_at ⟨Nat.le_of_ble_eq_true rfl, Nat.le_of_ble_eq_true rfl⟩) TI_X10_at TS_X10_at (ct_model G _ _) rfl rfl rfl (Nat.le_of_ble_eq_true rfl) dX10_looks_305 ⟨Nat.le_of_ble_eq_true rfl, Nat.le_of_ble_eq_true rfl⟩) hS (fun v_62 H locs w_63 hR hS => ?_)
                              subst w_63
                              refine ald hC hK hR (ct_m_ms G _ _) (nI_T _ (by omega)) (by omega) (by omega) (Int.toNat_natCast _) dX10_looks_308 ?_
                              have rd_64 : (s1 56 (24 * t.toInt.toNat + q)).toInt = (σ 56 (24 * t.toInt.toNat + q)).toInt := congrArg Int32.toInt (show s1 56 (24 * t.toInt.toNat + q) = σ 56 (24 * t.toInt.toNat + q) from congrFun (hi2_224.1 56 (by omega) (by first | omega | (dsimp only; omega) | (intro h; exact h))) (24 * t.toInt.toNat + q))
                              refine goip (runS (As := [.int (s1 56 (24 * t.toInt.toNat + q))]) (rest := []) hC hK hR hl.1 (c_X10_amount l hG s1 t6 (s1 56 (24 * t.toInt.toNat + q)) ) (call_b hC.ts TC_X10_amount TN_X10 TM_X10_248 hd_X10_amount ⟨Nat.le_of_ble_eq_true rfl, Nat.le_of_ble_eq_true rfl⟩) TT_X10_amount rfl rfl (Nat.le_of_ble_eq_true rfl) dX10_looks_309 ⟨Nat.le_of_ble_eq_true rfl, Nat.le_of_ble_eq_true rfl⟩) hS (fun v_65 H locs w_66 hR hS => ?_)
                              refine lv_iload hC.x hC.b dX10_looks_312 (lv_at hl 4 rfl) ?_
                              refine goip (runS (As := [.int x9]) (rest := [.int v_65]) hC hK hR hl.1 (c_X10_amount l hG s1 t6 x9 ) (call_b hC.ts TC_X10_amount TN_X10 TM_X10_248 hd_X10_amount ⟨Nat.le_of_ble_eq_true rfl, Nat.le_of_ble_eq_true rfl⟩) TT_X10_amount rfl rfl (Nat.le_of_ble_eq_true rfl) dX10_looks_314 ⟨Nat.le_of_ble_eq_true rfl, Nat.le_of_ble_eq_true rfl⟩) hS (fun v_67 H locs w_68 hR hS => ?_)
                              refine bi_ge (tgt := 324) (a := v_65.toInt) (b := v_67.toInt) hC.x hC.b rfl rfl dX10_looks_317 (by decide) (fun c_69 => ?_) (fun c_69 => ?_)
                              · skip
                                refine lv_iconst (v := 0) hC.x hC.b dX10_looks_324 (by decide) ?_
                                refine lv_istore (lv' := [(8, .int (0 : Int32)), (0, .ref (G.2.1 35)), (1, .int pl), (2, .int ma), (9, .int x9), (10, .int t)]) hC.x hC.b dX10_looks_325 hl (by decide) rfl (fun ls hl => ?_)
                                exact L_327 (0 : Int32) (by first | (left; decide) | (right; omega)) _ _ _ hR hS (lv_sub hl [1, 2, 3, 0, 4, 5] rfl)
                              · skip
                                refine lv_iconst (v := 1) hC.x hC.b dX10_looks_320 (by decide) ?_
                                refine lv_goto (tgt := 325) hC.x hC.b dX10_looks_321 (by decide) ?_
                                refine lv_istore (lv' := [(8, .int (1 : Int32)), (0, .ref (G.2.1 35)), (1, .int pl), (2, .int ma), (9, .int x9), (10, .int t)]) hC.x hC.b dX10_looks_325 hl (by decide) rfl (fun ls hl => ?_)
                                exact L_327 (1 : Int32) (by first | (left; decide) | (right; omega)) _ _ _ hR hS (lv_sub hl [1, 2, 3, 0, 4, 5] rfl)
                      · skip
                        refine bz_eq (tgt := 324) (a := 0) (b := 0) hC.x hC.b rfl rfl dX10_looks_247 (by decide) (fun _ => ?_) (fun c_70 => absurd c_70 (by decide))
                        refine lv_iconst (v := 0) hC.x hC.b dX10_looks_324 (by decide) ?_
                        refine lv_istore (lv' := [(8, .int (0 : Int32)), (0, .ref (G.2.1 35)), (1, .int pl), (2, .int ma), (9, .int x9), (10, .int t)]) hC.x hC.b dX10_looks_325 hl (by decide) rfl (fun ls hl => ?_)
                        exact L_327 (0 : Int32) (by first | (left; decide) | (right; omega)) _ _ _ hR hS (lv_sub hl [1, 2, 3, 0, 4, 5] rfl)
              exact L_224 _ x8 ma x_4 s6 (Nat.lt_succ_self _) (by exact hi0_202) (by first | omega | assumption) hi1_202 _ _ _ hR hS (lv_sub hl [2, 3, 4, 5, 1, 0] rfl)
            refine lv_iload_n hC.x hC.b dX10_looks_202 rfl (lv_at hl 2 rfl) ?_
            refine bz_eq (tgt := 210) (a := ma.toInt) (b := 0) hC.x hC.b rfl rfl dX10_looks_203 (by decide) (fun c_71 => ?_) (fun c_71 => ?_)
            · skip
              refine lv_iconst (v := 0) hC.x hC.b dX10_looks_210 (by decide) ?_
              refine lv_istore (lv' := [(8, .int (0 : Int32)), (0, .ref (G.2.1 35)), (1, .int pl), (2, .int ma)]) hC.x hC.b dX10_looks_211 hl (by decide) rfl (fun ls hl => ?_)
              exact L_213 (0 : Int32)  _ _ _ hR hS (lv_sub hl [1, 2, 3, 0] rfl)
            · skip
              refine lv_iconst (v := 1) hC.x hC.b dX10_looks_206 (by decide) ?_
              refine lv_goto (tgt := 211) hC.x hC.b dX10_looks_207 (by decide) ?_
              refine lv_istore (lv' := [(8, .int (1 : Int32)), (0, .ref (G.2.1 35)), (1, .int pl), (2, .int ma)]) hC.x hC.b dX10_looks_211 hl (by decide) rfl (fun ls hl => ?_)
              exact L_213 (1 : Int32)  _ _ _ hR hS (lv_sub hl [1, 2, 3, 0] rfl)
          have hsu := hkm.2.1 q
          refine lv_aload_n hC.x hC.b dX10_looks_84 rfl (lv_at hl 0 rfl) ?_
          refine rget hC hK hR (ct_model G _ _) rfl uin_X10 8 (by decide) TF_X10_35 rfl dX10_looks_85 ?_
          refine lv_iload_n hC.x hC.b dX10_looks_88 rfl (lv_at hl 1 rfl) ?_
          refine ald hC hK hR (ct_m_suspect G _ _) rfl (by omega) (by omega) hp_q dX10_looks_89 ?_
          refine lv_aload_n hC.x hC.b dX10_looks_90 rfl (lv_at hl 0 rfl) ?_
          refine rget hC hK hR (ct_model G _ _) rfl uin_X10 29 (by decide) TF_X10_137 rfl dX10_looks_91 ?_
          refine lv_iconst (v := 1) hC.x hC.b dX10_looks_94 (by decide) ?_
          refine lv_isub hC.x hC.b dX10_looks_95 ?_
          have pr_72 : ((σ 35 29) - (1 : Int32)).toInt = ((σ 35 29).toInt - 1) := subI rfl rfl (by omega) (by omega)
          refine bi_ne (tgt := 173) (a := (σ 44 q).toInt) (b := ((σ 35 29).toInt - 1)) hC.x hC.b rfl pr_72 dX10_looks_96 (by decide) (fun c_73 => ?_) (fun c_73 => ?_)
          · skip
            refine lv_iload_n hC.x hC.b dX10_looks_173 rfl (lv_at hl 2 rfl) ?_
            refine goip (runS (As := [.int ma]) (rest := []) hC hK hR hl.1 (c_X10_amount l hG σ τ ma ) (call_b hC.ts TC_X10_amount TN_X10 TM_X10_248 hd_X10_amount ⟨Nat.le_of_ble_eq_true rfl, Nat.le_of_ble_eq_true rfl⟩) TT_X10_amount rfl rfl (Nat.le_of_ble_eq_true rfl) dX10_looks_174 ⟨Nat.le_of_ble_eq_true rfl, Nat.le_of_ble_eq_true rfl⟩) hS (fun v_74 H locs w_75 hR hS => ?_)
            refine lv_i2l hC.x hC.b dX10_looks_177 rfl ?_
            refine lv_aload_n hC.x hC.b dX10_looks_178 rfl (lv_at hl 0 rfl) ?_
            refine rget hC hK hR (ct_model G _ _) rfl uin_X10 31 (by decide) TF_X10_102 rfl dX10_looks_179 ?_
            refine lv_i2l hC.x hC.b dX10_looks_182 rfl ?_
            refine lv_lload hC.x hC.b dX10_looks_183 (lv_at hl 3 rfl) ?_
            refine lv_lconst (v := 1) hC.x hC.b dX10_looks_185 (by decide) ?_
            refine lv_ladd hC.x hC.b dX10_looks_186 ?_
            refine lv_lmul hC.x hC.b dX10_looks_187 ?_
            refine bl_le (tgt := 202) (a := v_74.toInt) (b := ((σ 35 31).toInt64 * (x6 + (1 : Int64))).toInt) hC.x hC.b (i2lI rfl) rfl dX10_looks_188 dX10_looks_189 (by decide) (fun c_76 => ?_) (fun c_76 => ?_)
            · skip
              exact L_202 σ τ (by exact hkm) MRel.rf _ _ _ hR hS (lv_sub hl [0, 1, 2] rfl)
            · skip
              refine lv_aload_n hC.x hC.b dX10_looks_192 rfl (lv_at hl 0 rfl) ?_
              refine rget hC hK hR (ct_model G _ _) rfl uin_X10 8 (by decide) TF_X10_35 rfl dX10_looks_193 ?_
              refine lv_iload_n hC.x hC.b dX10_looks_196 rfl (lv_at hl 1 rfl) ?_
              refine lv_aload_n hC.x hC.b dX10_looks_197 rfl (lv_at hl 0 rfl) ?_
              refine rget hC hK hR (ct_model G _ _) rfl uin_X10 29 (by decide) TF_X10_137 rfl dX10_looks_198 ?_
              refine ast hC hK hG hR hS (fun _ => ct_m_suspect G _ _) rfl (by omega) (by omega) hp_q dX10_looks_201 (fun s_77 es_78 H locs hR hS => ?_)
              exact L_202 s_77 τ (by exact (by rw [es_78]; exact KM.u44 hkm (by first | omega | decide))) (by rw [es_78]; exact MRel.up (MRel.rf) (by omega) (by first | omega | (dsimp only; omega))) _ _ _ hR hS (lv_sub hl [0, 1, 2] rfl)
          · skip
            refine lv_aload_n hC.x hC.b dX10_looks_99 rfl (lv_at hl 0 rfl) ?_
            refine rget hC hK hR (ct_model G _ _) rfl uin_X10 20 (by decide) TF_X10_71 rfl dX10_looks_100 ?_
            refine lv_aload_n hC.x hC.b dX10_looks_103 rfl (lv_at hl 0 rfl) ?_
            refine lv_aload_n hC.x hC.b dX10_looks_104 rfl (lv_at hl 0 rfl) ?_
            refine rget hC hK hR (ct_model G _ _) rfl uin_X10 29 (by decide) TF_X10_137 rfl dX10_looks_105 ?_
            refine lv_iconst (v := 1) hC.x hC.b dX10_looks_108 (by decide) ?_
            refine lv_isub hC.x hC.b dX10_looks_109 ?_
            refine lv_iload_n hC.x hC.b dX10_looks_110 rfl (lv_at hl 1 rfl) ?_
            refine goip (runV (As := [.int ((σ 35 29) - (1 : Int32)), .int pl]) (rest := [.ref (G.2.1 56)]) hC hK hR hl.1 (c_X10_at l hG σ τ ((σ 35 29) - (1 : Int32)) ((((σ 35 29) - (1 : Int32)).toInt).toNat) (by first | rfl | (rw [show ((σ 35 29) - (1 : Int32)).toInt = ((σ 35 29) - (1 : Int32)).toInt from rfl]; done) | (rw [show ((σ 35 29) - (1 : Int32)).toInt = ((σ 35 29) - (1 : Int32)).toInt from rfl]; exact rfl)) pl q (by first | rfl | (rw [show pl.toInt = pl.toInt from rfl]; done) | (rw [show pl.toInt = pl.toInt from rfl]; exact hp_q)) (by omega) (by omega)) (call_b hC.ts TC_X10_at TN_X10 TM_X10_140 hd_X10_at ⟨Nat.le_of_ble_eq_true rfl, Nat.le_of_ble_eq_true rfl⟩) TI_X10_at TS_X10_at (ct_model G _ _) rfl rfl rfl (Nat.le_of_ble_eq_true rfl) dX10_looks_111 ⟨Nat.le_of_ble_eq_true rfl, Nat.le_of_ble_eq_true rfl⟩) hS (fun v_79 H locs w_80 hR hS => ?_)
            subst w_80
            refine ald hC hK hR (ct_m_ms G _ _) (nI_T _ (by omega)) (by omega) (by omega) (Int.toNat_natCast _) dX10_looks_114 ?_
            refine lv_topi (fun x_81 ex_82 => ?_)
            refine lv_istore (lv' := [(8, .int x_81), (0, .ref (G.2.1 35)), (1, .int pl), (2, .int ma), (6, .long x6)]) hC.x hC.b dX10_looks_115 hl (by decide) rfl (fun ls hl => ?_)
            have L_142 : ∀ (x9 : Int32), ∀ (H : Heap) (locs : List Loc) (ls : Array Slot), RepH G σ τ H → va_S A s.heap H locs → lv_has ls 11 [(0, .ref (G.2.1 35)), (1, .int pl), (2, .int ma), (6, .long x6), (8, .int x_81), (9, .int x9)] → W p l e (rmD 3) s m args below meth c H locs 0 0 (MQ below (va_Qv (po_X10_looks σ τ pl q ma) (BU G) A) args s 0 0 A) (F0 m 142 ls []) := by
              intro x9  H locs ls hR hS hl
              refine lv_iload hC.x hC.b dX10_looks_142 (lv_at hl 5 rfl) ?_
              refine bz_eq (tgt := 170) (a := x9.toInt) (b := 0) hC.x hC.b rfl rfl dX10_looks_144 (by decide) (fun c_83 => ?_) (fun c_83 => ?_)
              · skip
                refine lv_goto (tgt := 202) hC.x hC.b dX10_looks_170 (by decide) ?_
                exact L_202 σ τ (by exact hkm) MRel.rf _ _ _ hR hS (lv_sub hl [0, 1, 2] rfl)
              · skip
                refine lv_iload_n hC.x hC.b dX10_looks_147 rfl (lv_at hl 2 rfl) ?_
                refine goip (runS (As := [.int ma]) (rest := []) hC hK hR hl.1 (c_X10_amount l hG σ τ ma ) (call_b hC.ts TC_X10_amount TN_X10 TM_X10_248 hd_X10_amount ⟨Nat.le_of_ble_eq_true rfl, Nat.le_of_ble_eq_true rfl⟩) TT_X10_amount rfl rfl (Nat.le_of_ble_eq_true rfl) dX10_looks_148 ⟨Nat.le_of_ble_eq_true rfl, Nat.le_of_ble_eq_true rfl⟩) hS (fun v_84 H locs w_85 hR hS => ?_)
                refine lv_iload hC.x hC.b dX10_looks_151 (lv_at hl 4 rfl) ?_
                refine goip (runS (As := [.int x_81]) (rest := [.int v_84]) hC hK hR hl.1 (c_X10_amount l hG σ τ x_81 ) (call_b hC.ts TC_X10_amount TN_X10 TM_X10_248 hd_X10_amount ⟨Nat.le_of_ble_eq_true rfl, Nat.le_of_ble_eq_true rfl⟩) TT_X10_amount rfl rfl (Nat.le_of_ble_eq_true rfl) dX10_looks_153 ⟨Nat.le_of_ble_eq_true rfl, Nat.le_of_ble_eq_true rfl⟩) hS (fun v_86 H locs w_87 hR hS => ?_)
                refine lv_iconst (v := 1) hC.x hC.b dX10_looks_156 (by decide) ?_
                refine lv_iadd hC.x hC.b dX10_looks_157 ?_
                refine lv_iconst (v := 2) hC.x hC.b dX10_looks_158 (by decide) ?_
                refine lv_idiv hC.x hC.b dX10_looks_159 (by decide) ?_
                refine bi_lt (tgt := 170) (a := v_84.toInt) (b := ((v_86 + (1 : Int32)) / (2 : Int32)).toInt) hC.x hC.b rfl rfl dX10_looks_160 (by decide) (fun c_88 => ?_) (fun c_88 => ?_)
                · skip
                  refine lv_goto (tgt := 202) hC.x hC.b dX10_looks_170 (by decide) ?_
                  exact L_202 σ τ (by exact hkm) MRel.rf _ _ _ hR hS (lv_sub hl [0, 1, 2] rfl)
                · skip
                  have hsn := hkm.2.2.2
                  refine lv_aload_n hC.x hC.b dX10_looks_163 rfl (lv_at hl 0 rfl) ?_
                  refine lv_iload_n hC.x hC.b dX10_looks_164 rfl (lv_at hl 1 rfl) ?_
                  refine lv_iload hC.x hC.b dX10_looks_165 (lv_at hl 4 rfl) ?_
                  refine gov (runV (As := [.int pl, .int x_81]) (rest := []) hC hK hR hl.1 (c_X10_steps l hG σ τ pl q (by first | rfl | (rw [show pl.toInt = pl.toInt from rfl]; done) | (rw [show pl.toInt = pl.toInt from rfl]; exact hp_q)) x_81 (by first | assumption | omega) (by omega) (by first | assumption | omega)) (call_b hC.ts TC_X10_steps TN_X10 TM_X10_251 hd_X10_steps ⟨Nat.le_of_ble_eq_true rfl, Nat.le_of_ble_eq_true rfl⟩) TI_X10_steps TS_X10_steps (ct_model G _ _) rfl rfl rfl (Nat.le_of_ble_eq_true rfl) dX10_looks_167 ⟨Nat.le_of_ble_eq_true rfl, Nat.le_of_ble_eq_true rfl⟩) hS (fun s_91 t_92 H locs w_90 hR hS => ?_)
                  try dsimp only [po_X10_steps] at w_90
                  obtain ⟨f_93, f_94⟩ := w_90
                  refine lv_goto (tgt := 202) hC.x hC.b dX10_looks_170 (by decide) ?_
                  exact L_202 s_91 t_92 (by exact (KM.f37 hkm f_93 (by first | omega | (dsimp only; omega)) (by first | omega | (dsimp only; omega)) (by first | omega | (dsimp only; omega)) f_94)) (MRel.tr MRel.rf (MRel.mo f_93 (by intro k q; first | omega | (dsimp only at q ⊢; omega) | exact q.elim) (by intro j q; first | omega | (dsimp only at q ⊢; omega) | exact q.elim))) _ _ _ hR hS (lv_sub hl [0, 1, 2] rfl)
            refine lv_iload hC.x hC.b dX10_looks_117 (lv_at hl 0 rfl) ?_
            refine bz_le (tgt := 126) (a := x_81.toInt) (b := 0) hC.x hC.b rfl rfl dX10_looks_119 (by decide) (fun c_95 => ?_) (fun c_95 => ?_)
            · skip
              refine lv_iload hC.x hC.b dX10_looks_126 (lv_at hl 0 rfl) ?_
              refine bz_ge (tgt := 139) (a := x_81.toInt) (b := 0) hC.x hC.b rfl rfl dX10_looks_128 (by decide) (fun c_96 => ?_) (fun c_96 => ?_)
              · skip
                refine lv_iconst (v := 0) hC.x hC.b dX10_looks_139 (by decide) ?_
                refine lv_istore (lv' := [(9, .int (0 : Int32)), (8, .int x_81), (0, .ref (G.2.1 35)), (1, .int pl), (2, .int ma), (6, .long x6)]) hC.x hC.b dX10_looks_140 hl (by decide) rfl (fun ls hl => ?_)
                exact L_142 (0 : Int32)  _ _ _ hR hS (lv_sub hl [2, 3, 4, 5, 1, 0] rfl)
              · skip
                refine lv_iload_n hC.x hC.b dX10_looks_131 rfl (lv_at hl 3 rfl) ?_
                refine bz_ge (tgt := 139) (a := ma.toInt) (b := 0) hC.x hC.b rfl rfl dX10_looks_132 (by decide) (fun c_97 => ?_) (fun c_97 => ?_)
                · skip
                  refine lv_iconst (v := 0) hC.x hC.b dX10_looks_139 (by decide) ?_
                  refine lv_istore (lv' := [(9, .int (0 : Int32)), (8, .int x_81), (0, .ref (G.2.1 35)), (1, .int pl), (2, .int ma), (6, .long x6)]) hC.x hC.b dX10_looks_140 hl (by decide) rfl (fun ls hl => ?_)
                  exact L_142 (0 : Int32)  _ _ _ hR hS (lv_sub hl [2, 3, 4, 5, 1, 0] rfl)
                · skip
                  refine lv_iconst (v := 1) hC.x hC.b dX10_looks_135 (by decide) ?_
                  refine lv_goto (tgt := 140) hC.x hC.b dX10_looks_136 (by decide) ?_
                  refine lv_istore (lv' := [(9, .int (1 : Int32)), (8, .int x_81), (0, .ref (G.2.1 35)), (1, .int pl), (2, .int ma), (6, .long x6)]) hC.x hC.b dX10_looks_140 hl (by decide) rfl (fun ls hl => ?_)
                  exact L_142 (1 : Int32)  _ _ _ hR hS (lv_sub hl [2, 3, 4, 5, 1, 0] rfl)
            · skip
              refine lv_iload_n hC.x hC.b dX10_looks_122 rfl (lv_at hl 3 rfl) ?_
              refine bz_gt (tgt := 135) (a := ma.toInt) (b := 0) hC.x hC.b rfl rfl dX10_looks_123 (by decide) (fun c_98 => ?_) (fun c_98 => ?_)
              · skip
                refine lv_iconst (v := 1) hC.x hC.b dX10_looks_135 (by decide) ?_
                refine lv_goto (tgt := 140) hC.x hC.b dX10_looks_136 (by decide) ?_
                refine lv_istore (lv' := [(9, .int (1 : Int32)), (8, .int x_81), (0, .ref (G.2.1 35)), (1, .int pl), (2, .int ma), (6, .long x6)]) hC.x hC.b dX10_looks_140 hl (by decide) rfl (fun ls hl => ?_)
                exact L_142 (1 : Int32)  _ _ _ hR hS (lv_sub hl [2, 3, 4, 5, 1, 0] rfl)
              · skip
                refine lv_iload hC.x hC.b dX10_looks_126 (lv_at hl 0 rfl) ?_
                refine bz_ge (tgt := 139) (a := x_81.toInt) (b := 0) hC.x hC.b rfl rfl dX10_looks_128 (by decide) (fun c_99 => ?_) (fun c_99 => ?_)
                · skip
                  refine lv_iconst (v := 0) hC.x hC.b dX10_looks_139 (by decide) ?_
                  refine lv_istore (lv' := [(9, .int (0 : Int32)), (8, .int x_81), (0, .ref (G.2.1 35)), (1, .int pl), (2, .int ma), (6, .long x6)]) hC.x hC.b dX10_looks_140 hl (by decide) rfl (fun ls hl => ?_)
                  exact L_142 (0 : Int32)  _ _ _ hR hS (lv_sub hl [2, 3, 4, 5, 1, 0] rfl)
                · skip
                  refine lv_iload_n hC.x hC.b dX10_looks_131 rfl (lv_at hl 3 rfl) ?_
                  refine bz_ge (tgt := 139) (a := ma.toInt) (b := 0) hC.x hC.b rfl rfl dX10_looks_132 (by decide) (fun c_100 => ?_) (fun c_100 => ?_)
                  · skip
                    refine lv_iconst (v := 0) hC.x hC.b dX10_looks_139 (by decide) ?_
                    refine lv_istore (lv' := [(9, .int (0 : Int32)), (8, .int x_81), (0, .ref (G.2.1 35)), (1, .int pl), (2, .int ma), (6, .long x6)]) hC.x hC.b dX10_looks_140 hl (by decide) rfl (fun ls hl => ?_)
                    exact L_142 (0 : Int32)  _ _ _ hR hS (lv_sub hl [2, 3, 4, 5, 1, 0] rfl)
                  · skip
                    refine lv_iconst (v := 1) hC.x hC.b dX10_looks_135 (by decide) ?_
                    refine lv_goto (tgt := 140) hC.x hC.b dX10_looks_136 (by decide) ?_
                    refine lv_istore (lv' := [(9, .int (1 : Int32)), (8, .int x_81), (0, .ref (G.2.1 35)), (1, .int pl), (2, .int ma), (6, .long x6)]) hC.x hC.b dX10_looks_140 hl (by decide) rfl (fun ls hl => ?_)
                    exact L_142 (1 : Int32)  _ _ _ hR hS (lv_sub hl [2, 3, 4, 5, 1, 0] rfl)
        refine lv_iload hC.x hC.b dX10_looks_68 (lv_at hl 4 rfl) ?_
        refine bz_ne (tgt := 77) (a := x5.toInt) (b := 0) hC.x hC.b rfl rfl dX10_looks_70 (by decide) (fun c_101 => ?_) (fun c_101 => ?_)
        · skip
          refine lv_lload_n hC.x hC.b dX10_looks_77 rfl (lv_at hl 3 rfl) ?_
          refine lv_iload hC.x hC.b dX10_looks_78 (lv_at hl 4 rfl) ?_
          refine lv_i2l hC.x hC.b dX10_looks_80 rfl ?_
          refine lv_ldiv hC.x hC.b dX10_looks_81 (ne0L (i2lI rfl) (by omega)) ?_
          refine lv_lstore (lv' := [(6, .long (x3 / x5.toInt64)), (0, .ref (G.2.1 35)), (1, .int pl), (2, .int ma), (3, .long x3), (5, .int x5)]) hC.x hC.b dX10_looks_82 hl (by decide) rfl (fun ls hl => ?_)
          exact L_84 (x3 / x5.toInt64)  _ _ _ hR hS (lv_sub hl [1, 2, 3, 0] rfl)
        · skip
          refine lv_lconst (v := 0) hC.x hC.b dX10_looks_73 (by decide) ?_
          refine lv_goto (tgt := 82) hC.x hC.b dX10_looks_74 (by decide) ?_
          refine lv_lstore (lv' := [(6, .long (0 : Int64)), (0, .ref (G.2.1 35)), (1, .int pl), (2, .int ma), (3, .long x3), (5, .int x5)]) hC.x hC.b dX10_looks_82 hl (by decide) rfl (fun ls hl => ?_)
          exact L_84 (0 : Int64)  _ _ _ hR hS (lv_sub hl [1, 2, 3, 0] rfl)
      · skip
        refine lv_aload_n hC.x hC.b dX10_looks_27 rfl (lv_at hl 0 rfl) ?_
        refine lv_iload hC.x hC.b dX10_looks_28 (lv_at hl 5 rfl) ?_
        refine lv_iload_n hC.x hC.b dX10_looks_30 rfl (lv_at hl 1 rfl) ?_
        refine goip (runV (As := [.int t, .int pl]) (rest := []) hC hK hR hl.1 (c_X10_isMissed l hG σ τ t t.toInt.toNat rfl pl q (by first | rfl | (rw [show pl.toInt = pl.toInt from rfl]; done) | (rw [show pl.toInt = pl.toInt from rfl]; exact hp_q)) (by first | assumption | omega) (by omega)) (call_b hC.ts TC_X10_isMissed TN_X10 TM_X10_214 hd_X10_isMissed ⟨Nat.le_of_ble_eq_true rfl, Nat.le_of_ble_eq_true rfl⟩) TI_X10_isMissed TS_X10_isMissed (ct_model G _ _) rfl rfl rfl (Nat.le_of_ble_eq_true rfl) dX10_looks_31 ⟨Nat.le_of_ble_eq_true rfl, Nat.le_of_ble_eq_true rfl⟩) hS (fun v_102 H locs w_103 hR hS => ?_)
        rcases w_103 with ⟨rfl, f_104, f_105⟩ | rfl
        · skip
          refine bz_ne (tgt := 40) (a := 1) (b := 0) hC.x hC.b rfl rfl dX10_looks_34 (by decide) (fun _ => ?_) (fun c_106 => absurd c_106 (by decide))
          refine lv_lload_n hC.x hC.b dX10_looks_40 rfl (lv_at hl 3 rfl) ?_
          refine lv_aload_n hC.x hC.b dX10_looks_41 rfl (lv_at hl 0 rfl) ?_
          refine rget hC hK hR (ct_model G _ _) rfl uin_X10 20 (by decide) TF_X10_71 rfl dX10_looks_42 ?_
          refine lv_aload_n hC.x hC.b dX10_looks_45 rfl (lv_at hl 0 rfl) ?_
          refine lv_iload hC.x hC.b dX10_looks_46 (lv_at hl 5 rfl) ?_
          refine lv_iload_n hC.x hC.b dX10_looks_48 rfl (lv_at hl 1 rfl) ?_
          refine goip (runV (As := [.int t, .int pl]) (rest := [.ref (G.2.1 56), .long x3]) hC hK hR hl.1 (c_X10_at l hG σ τ t t.toInt.toNat rfl pl q (by first | rfl | (rw [show pl.toInt = pl.toInt from rfl]; done) | (rw [show pl.toInt = pl.toInt from rfl]; exact hp_q)) (by omega) (by omega)) (call_b hC.ts TC_X10_at TN_X10 TM_X10_140 hd_X10_at ⟨Nat.le_of_ble_eq_true rfl, Nat.le_of_ble_eq_true rfl⟩) TI_X10_at TS_X10_at (ct_model G _ _) rfl rfl rfl (Nat.le_of_ble_eq_true rfl) dX10_looks_49 ⟨Nat.le_of_ble_eq_true rfl, Nat.le_of_ble_eq_true rfl⟩) hS (fun v_107 H locs w_108 hR hS => ?_)
          subst w_108
          refine ald hC hK hR (ct_m_ms G _ _) (nI_T _ (by omega)) (by omega) (by omega) (Int.toNat_natCast _) dX10_looks_52 ?_
          refine goip (runS (As := [.int (σ 56 (24 * t.toInt.toNat + q))]) (rest := [.long x3]) hC hK hR hl.1 (c_X10_amount l hG σ τ (σ 56 (24 * t.toInt.toNat + q)) ) (call_b hC.ts TC_X10_amount TN_X10 TM_X10_248 hd_X10_amount ⟨Nat.le_of_ble_eq_true rfl, Nat.le_of_ble_eq_true rfl⟩) TT_X10_amount rfl rfl (Nat.le_of_ble_eq_true rfl) dX10_looks_53 ⟨Nat.le_of_ble_eq_true rfl, Nat.le_of_ble_eq_true rfl⟩) hS (fun v_109 H locs w_110 hR hS => ?_)
          refine lv_i2l hC.x hC.b dX10_looks_56 rfl ?_
          refine lv_ladd hC.x hC.b dX10_looks_57 ?_
          refine lv_lstore_n (lv' := [(3, .long (x3 + v_109.toInt64)), (0, .ref (G.2.1 35)), (1, .int pl), (2, .int ma), (5, .int x5), (6, .int t)]) hC.x hC.b dX10_looks_58 rfl hl (by decide) rfl (fun ls hl => ?_)
          obtain ⟨x_111, ex_112⟩ : ∃ y : Int32, y = x5 + 1 := ⟨_, rfl⟩
          refine lv_iinc (v := x_111) (lv' := [(5, .int x_111), (3, .long (x3 + v_109.toInt64)), (0, .ref (G.2.1 35)), (1, .int pl), (2, .int ma), (6, .int t)]) hC.x hC.b dX10_looks_59 hl (k := 4) rfl ex_112.symm (by decide) rfl (fun ls hl => ?_)
          obtain ⟨x_113, ex_114⟩ : ∃ y : Int32, y = t + 1 := ⟨_, rfl⟩
          have pr_115 : x_113.toInt = t.toInt + (1) := by rw [ex_114]; exact addI rfl rfl (by omega) (by omega)
          refine lv_iinc (v := x_113) (lv' := [(6, .int x_113), (5, .int x_111), (3, .long (x3 + v_109.toInt64)), (0, .ref (G.2.1 35)), (1, .int pl), (2, .int ma)]) hC.x hC.b dX10_looks_62 hl (k := 5) rfl ex_114.symm (by decide) rfl (fun ls hl => ?_)
          refine lv_goto (tgt := 18) hC.x hC.b dX10_looks_65 (by decide) ?_
          exact ih_18 (x3 + v_109.toInt64) x_111 x_113 (by omega)  _ _ _ hR hS (lv_sub hl [3, 4, 5, 2, 1, 0] rfl)
        · skip
          refine bz_ne (tgt := 40) (a := 0) (b := 0) hC.x hC.b rfl rfl dX10_looks_34 (by decide) (fun c_116 => absurd c_116 (by decide)) (fun _ => ?_)
          refine lv_goto (tgt := 62) hC.x hC.b dX10_looks_37 (by decide) ?_
          obtain ⟨x_117, ex_118⟩ : ∃ y : Int32, y = t + 1 := ⟨_, rfl⟩
          have pr_119 : x_117.toInt = t.toInt + (1) := by rw [ex_118]; exact addI rfl rfl (by omega) (by omega)
          refine lv_iinc (v := x_117) (lv' := [(6, .int x_117), (0, .ref (G.2.1 35)), (1, .int pl), (2, .int ma), (3, .long x3), (5, .int x5)]) hC.x hC.b dX10_looks_62 hl (k := 5) rfl ex_118.symm (by decide) rfl (fun ls hl => ?_)
          refine lv_goto (tgt := 18) hC.x hC.b dX10_looks_65 (by decide) ?_
          exact ih_18 x3 x5 x_117 (by omega)  _ _ _ hR hS (lv_sub hl [1, 2, 3, 4, 5, 0] rfl)
  exact L_18 _ (0 : Int64) (0 : Int32) ((σ 35 29) - (σ 38 q)) (Nat.lt_succ_self _)  _ _ _ hR hS (lv_sub hl [3, 4, 5, 2, 1, 0] rfl)

abbrev po_X10_closes (σ : SI) (τ : SL) (ra : Int32) (rq : Nat) : Int32 → SI × SL → Prop := fun v u => ((MRel (fun k => (41 ≤ k ∧ k ≤ 46 ∧ k ≠ 42 ∧ k ≠ 43) ∨ (52 ≤ k ∧ k ≤ 69) ∨ k = 71) (fun j => j = 37 ∨ j = 41 ∨ j = 43 ∨ j = 44) σ u.1) ∧ (KM u.1))
set_option maxRecDepth 100000 in
set_option maxHeartbeats 4000000 in
theorem c_X10_closes (l : Launch) {G : Gx} {A : Nat → Prop} (hG : GOk G A) (σ : SI) (τ : SL) (ra : Int32) (rq : Nat) (hp_rq : ra.toInt.toNat = rq) (hnw : 0 ≤ (σ 35 29).toInt ∧ (σ 35 29).toInt ≤ 200) (hra : 0 ≤ ra.toInt ∧ ra.toInt < 24) (hln : LnM σ) (hcl : ClM σ) (hkm : KM σ) : MI l G A 6 yX10_closes cX10_closes 17 (some .int) [.ref (G.2.1 35), .int ra] (σ, τ) (po_X10_closes σ τ ra rq) := by
  refine met_of (own := RX10) (by decide +kernel) rfl [(0, .ref (G.2.1 35)), (1, .int ra)] rfl (Nat.le_of_ble_eq_true rfl) ?_
  intro p e s m args below meth c ls hC hK hR hl
  have hS : va_S A s.heap s.heap [] := va_S.rf
  refine lv_iconst (v := 0) hC.x hC.b dX10_closes_0 (by decide) ?_
  refine lv_istore_n (lv' := [(2, .int (0 : Int32)), (0, .ref (G.2.1 35)), (1, .int ra)]) hC.x hC.b dX10_closes_1 rfl hl (by decide) rfl (fun ls hl => ?_)
  refine lv_lconst (v := 0) hC.x hC.b dX10_closes_2 (by decide) ?_
  refine lv_lstore_n (lv' := [(3, .long (0 : Int64)), (2, .int (0 : Int32)), (0, .ref (G.2.1 35)), (1, .int ra)]) hC.x hC.b dX10_closes_3 rfl hl (by decide) rfl (fun ls hl => ?_)
  refine lv_iconst (v := 0) hC.x hC.b dX10_closes_4 (by decide) ?_
  refine lv_istore (lv' := [(5, .int (0 : Int32)), (3, .long (0 : Int64)), (2, .int (0 : Int32)), (0, .ref (G.2.1 35)), (1, .int ra)]) hC.x hC.b dX10_closes_5 hl (by decide) rfl (fun ls hl => ?_)
  have L_7 : ∀ (F : Nat) (x2 : Int32) (x3 : Int64) (n : Nat) (s1 : SI) (t1 : SL), (24 - n) < F → (KM s1) → (n ≤ 24) → (MRel (fun k => (41 ≤ k ∧ k ≤ 46 ∧ k ≠ 42 ∧ k ≠ 43) ∨ (52 ≤ k ∧ k ≤ 69) ∨ k = 71) (fun j => j = 37 ∨ j = 41 ∨ j = 43 ∨ j = 44) σ s1) → ∀ (H : Heap) (locs : List Loc) (ls : Array Slot), RepH G s1 t1 H → va_S A s.heap H locs → lv_has ls 17 [(0, .ref (G.2.1 35)), (1, .int ra), (2, .int x2), (3, .long x3), (5, .int (nI n))] → W p l e (rmD 6) s m args below meth c H locs 0 0 (MQ below (va_Qi (po_X10_closes σ τ ra rq) (BU G) A) args s 0 0 A) (F0 m 7 ls []) := by
    intro F
    induction F with
    | zero => intro x2 x3 n s1 t1 hm; exact absurd hm (Nat.not_lt_zero _)
    | succ F ih_7 =>
      intro x2 x3 n s1 t1 hm_7 hi0_7 hi1_7 hi2_7 H locs ls hR hS hl
      have hnI := nI_T n (by omega)
      refine lv_iload hC.x hC.b dX10_closes_7 (lv_at hl 4 rfl) ?_
      refine lv_bipush (v := 24) hC.x hC.b dX10_closes_9 (by decide) ?_
      refine bi_ge (tgt := 166) (a := (n : Int)) (b := 24) hC.x hC.b (nI_T n (by omega)) rfl dX10_closes_11 (by decide) (fun c_1 => ?_) (fun c_1 => ?_)
      · skip
        have L_194 : ∀ (x5 : Int64), ∀ (H : Heap) (locs : List Loc) (ls : Array Slot), RepH G s1 t1 H → va_S A s.heap H locs → lv_has ls 17 [(0, .ref (G.2.1 35)), (1, .int ra), (2, .int x2), (5, .long x5)] → W p l e (rmD 6) s m args below meth c H locs 0 0 (MQ below (va_Qi (po_X10_closes σ τ ra rq) (BU G) A) args s 0 0 A) (F0 m 194 ls []) := by
          intro x5  H locs ls hR hS hl
          refine lv_lconst (v := 0) hC.x hC.b dX10_closes_194 (by decide) ?_
          refine lv_lstore (lv' := [(7, .long (0 : Int64)), (0, .ref (G.2.1 35)), (1, .int ra), (2, .int x2), (5, .long x5)]) hC.x hC.b dX10_closes_195 hl (by decide) rfl (fun ls hl => ?_)
          refine lv_lconst (v := 0) hC.x hC.b dX10_closes_197 (by decide) ?_
          refine lv_lstore (lv' := [(9, .long (0 : Int64)), (7, .long (0 : Int64)), (0, .ref (G.2.1 35)), (1, .int ra), (2, .int x2), (5, .long x5)]) hC.x hC.b dX10_closes_198 hl (by decide) rfl (fun ls hl => ?_)
          refine lv_iconst (v := 0) hC.x hC.b dX10_closes_200 (by decide) ?_
          refine lv_istore (lv' := [(11, .int (0 : Int32)), (9, .long (0 : Int64)), (7, .long (0 : Int64)), (0, .ref (G.2.1 35)), (1, .int ra), (2, .int x2), (5, .long x5)]) hC.x hC.b dX10_closes_201 hl (by decide) rfl (fun ls hl => ?_)
          have L_203 : ∀ (F : Nat) (x7 : Int64) (x9 : Int64) (n2 : Nat) (s2 : SI) (t2 : SL), (24 - n2) < F → (KM s2) → (n2 ≤ 24) → (MRel (fun k => (41 ≤ k ∧ k ≤ 46 ∧ k ≠ 42 ∧ k ≠ 43) ∨ (52 ≤ k ∧ k ≤ 69) ∨ k = 71) (fun j => j = 37 ∨ j = 41 ∨ j = 43 ∨ j = 44) σ s2) → ∀ (H : Heap) (locs : List Loc) (ls : Array Slot), RepH G s2 t2 H → va_S A s.heap H locs → lv_has ls 17 [(0, .ref (G.2.1 35)), (1, .int ra), (2, .int x2), (5, .long x5), (7, .long x7), (9, .long x9), (11, .int (nI n2))] → W p l e (rmD 6) s m args below meth c H locs 0 0 (MQ below (va_Qi (po_X10_closes σ τ ra rq) (BU G) A) args s 0 0 A) (F0 m 203 ls []) := by
            intro F
            induction F with
            | zero => intro x7 x9 n2 s2 t2 hm; exact absurd hm (Nat.not_lt_zero _)
            | succ F ih_203 =>
              intro x7 x9 n2 s2 t2 hm_203 hi0_203 hi1_203 hi2_203 H locs ls hR hS hl
              have hnI2 := nI_T n2 (by omega)
              refine lv_iload hC.x hC.b dX10_closes_203 (lv_at hl 6 rfl) ?_
              refine lv_bipush (v := 24) hC.x hC.b dX10_closes_205 (by decide) ?_
              refine bi_ge (tgt := 329) (a := (n2 : Int)) (b := 24) hC.x hC.b (nI_T n2 (by omega)) rfl dX10_closes_207 (by decide) (fun c_2 => ?_) (fun c_2 => ?_)
              · skip
                have L_349 : ∀ (x11 : Int64), ∀ (H : Heap) (locs : List Loc) (ls : Array Slot), RepH G s2 t2 H → va_S A s.heap H locs → lv_has ls 17 [(0, .ref (G.2.1 35)), (1, .int ra), (2, .int x2), (7, .long x7), (9, .long x9), (11, .long x11)] → W p l e (rmD 6) s m args below meth c H locs 0 0 (MQ below (va_Qi (po_X10_closes σ τ ra rq) (BU G) A) args s 0 0 A) (F0 m 349 ls []) := by
                  intro x11  H locs ls hR hS hl
                  have L_400 : ∀ (s5 : SI), (KM s5) → (MRel (fun k => (41 ≤ k ∧ k ≤ 46 ∧ k ≠ 42 ∧ k ≠ 43) ∨ (52 ≤ k ∧ k ≤ 69) ∨ k = 71) (fun j => j = 37 ∨ j = 41 ∨ j = 43 ∨ j = 44) σ s5) → ∀ (H : Heap) (locs : List Loc) (ls : Array Slot), RepH G s5 t2 H → va_S A s.heap H locs → lv_has ls 17 [(0, .ref (G.2.1 35)), (1, .int ra), (2, .int x2), (11, .long x11)] → W p l e (rmD 6) s m args below meth c H locs 0 0 (MQ below (va_Qi (po_X10_closes σ τ ra rq) (BU G) A) args s 0 0 A) (F0 m 400 ls []) := by
                    intro s5 hi0_400 hi1_400 H locs ls hR hS hl
                    refine lv_iconst (v := 0) hC.x hC.b dX10_closes_400 (by decide) ?_
                    refine lv_istore (lv' := [(13, .int (0 : Int32)), (0, .ref (G.2.1 35)), (1, .int ra), (2, .int x2), (11, .long x11)]) hC.x hC.b dX10_closes_401 hl (by decide) rfl (fun ls hl => ?_)
                    have L_403 : ∀ (F : Nat) (n3 : Nat) (s3 : SI) (t3 : SL), (24 - n3) < F → (KM s3) → (n3 ≤ 24) → (MRel (fun k => (41 ≤ k ∧ k ≤ 46 ∧ k ≠ 42 ∧ k ≠ 43) ∨ (52 ≤ k ∧ k ≤ 69) ∨ k = 71) (fun j => j = 37 ∨ j = 41 ∨ j = 43 ∨ j = 44) σ s3) → ∀ (H : Heap) (locs : List Loc) (ls : Array Slot), RepH G s3 t3 H → va_S A s.heap H locs → lv_has ls 17 [(0, .ref (G.2.1 35)), (1, .int ra), (2, .int x2), (11, .long x11), (13, .int (nI n3))] → W p l e (rmD 6) s m args below meth c H locs 0 0 (MQ below (va_Qi (po_X10_closes σ τ ra rq) (BU G) A) args s 0 0 A) (F0 m 403 ls []) := by
                      intro F
                      induction F with
                      | zero => intro n3 s3 t3 hm; exact absurd hm (Nat.not_lt_zero _)
                      | succ F ih_403 =>
                        intro n3 s3 t3 hm_403 hi0_403 hi1_403 hi2_403 H locs ls hR hS hl
                        have hnI3 := nI_T n3 (by omega)
                        refine lv_iload hC.x hC.b dX10_closes_403 (lv_at hl 4 rfl) ?_
                        refine lv_bipush (v := 24) hC.x hC.b dX10_closes_405 (by decide) ?_
                        refine bi_ge (tgt := 554) (a := (n3 : Int)) (b := 24) hC.x hC.b (nI_T n3 (by omega)) rfl dX10_closes_407 (by decide) (fun c_3 => ?_) (fun c_3 => ?_)
                        · skip
                          refine lv_iconst (v := 0) hC.x hC.b dX10_closes_554 (by decide) ?_
                          refine lv_istore (lv' := [(13, .int (0 : Int32)), (0, .ref (G.2.1 35)), (1, .int ra), (2, .int x2), (11, .long x11)]) hC.x hC.b dX10_closes_555 hl (by decide) rfl (fun ls hl => ?_)
                          have L_557 : ∀ (F : Nat) (n4 : Nat) (s4 : SI) (t4 : SL), (24 - n4) < F → (KM s4) → (n4 ≤ 24) → (MRel (fun k => (41 ≤ k ∧ k ≤ 46 ∧ k ≠ 42 ∧ k ≠ 43) ∨ (52 ≤ k ∧ k ≤ 69) ∨ k = 71) (fun j => j = 37 ∨ j = 41 ∨ j = 43 ∨ j = 44) σ s4) → ∀ (H : Heap) (locs : List Loc) (ls : Array Slot), RepH G s4 t4 H → va_S A s.heap H locs → lv_has ls 17 [(0, .ref (G.2.1 35)), (1, .int ra), (2, .int x2), (13, .int (nI n4))] → W p l e (rmD 6) s m args below meth c H locs 0 0 (MQ below (va_Qi (po_X10_closes σ τ ra rq) (BU G) A) args s 0 0 A) (F0 m 557 ls []) := by
                            intro F
                            induction F with
                            | zero => intro n4 s4 t4 hm; exact absurd hm (Nat.not_lt_zero _)
                            | succ F ih_557 =>
                              intro n4 s4 t4 hm_557 hi0_557 hi1_557 hi2_557 H locs ls hR hS hl
                              have hnI4 := nI_T n4 (by omega)
                              refine lv_iload hC.x hC.b dX10_closes_557 (lv_at hl 3 rfl) ?_
                              refine lv_bipush (v := 24) hC.x hC.b dX10_closes_559 (by decide) ?_
                              refine bi_ge (tgt := 642) (a := (n4 : Int)) (b := 24) hC.x hC.b (nI_T n4 (by omega)) rfl dX10_closes_561 (by decide) (fun c_4 => ?_) (fun c_4 => ?_)
                              · skip
                                refine lv_iload_n hC.x hC.b dX10_closes_642 rfl (lv_at hl 2 rfl) ?_
                                exact reti hC hK hR hS (⟨by exact hi2_557, by exact hi0_557⟩) dX10_closes_643
                              · skip
                                refine lv_aload_n hC.x hC.b dX10_closes_564 rfl (lv_at hl 0 rfl) ?_
                                refine rget hC hK hR (ct_model G _ _) rfl uin_X10 16 (by decide) TF_X10_59 rfl dX10_closes_565 ?_
                                refine lv_aload_n hC.x hC.b dX10_closes_568 rfl (lv_at hl 0 rfl) ?_
                                refine lv_aload_n hC.x hC.b dX10_closes_569 rfl (lv_at hl 0 rfl) ?_
                                refine rget hC hK hR (ct_model G _ _) rfl uin_X10 29 (by decide) TF_X10_137 rfl dX10_closes_570 ?_
                                have rd_5 : (s4 35 29).toInt = (σ 35 29).toInt := congrArg Int32.toInt (show s4 35 29 = σ 35 29 from hi2_557.2 29 (by first | omega | (dsimp only; omega)))
                                refine lv_iload hC.x hC.b dX10_closes_573 (lv_at hl 3 rfl) ?_
                                have av_6 : (nI n4).toInt = (n4 : Int) := (nI_T n4 (by omega))
                                refine goip (runV (As := [.int (s4 35 29), .int (nI n4)]) (rest := [.ref (G.2.1 52)]) hC hK hR hl.1 (c_X10_at l hG s4 t4 (s4 35 29) (((s4 35 29).toInt).toNat) (by first | rfl | (rw [show (s4 35 29).toInt = (s4 35 29).toInt from rfl]; done) | (rw [show (s4 35 29).toInt = (s4 35 29).toInt from rfl]; exact rfl)) (nI n4) n4 (by first | rfl | (rw [show (nI n4).toInt = (n4 : Int) from (nI_T n4 (by omega))]; done) | (rw [show (nI n4).toInt = (n4 : Int) from (nI_T n4 (by omega))]; exact (Int.toNat_natCast _))) (by omega) (by omega)) (call_b hC.ts TC_X10_at TN_X10 TM_X10_140 hd_X10_at ⟨Nat.le_of_ble_eq_true rfl, Nat.le_of_ble_eq_true rfl⟩) TI_X10_at TS_X10_at (ct_model G _ _) rfl rfl rfl (Nat.le_of_ble_eq_true rfl) dX10_closes_575 ⟨Nat.le_of_ble_eq_true rfl, Nat.le_of_ble_eq_true rfl⟩) hS (fun v_7 H locs w_8 hR hS => ?_)
                                subst w_8
                                refine lv_aload_n hC.x hC.b dX10_closes_578 rfl (lv_at hl 0 rfl) ?_
                                refine rget hC hK hR (ct_model G _ _) rfl uin_X10 48 (by decide) TF_X10_126 rfl dX10_closes_579 ?_
                                refine lv_iload hC.x hC.b dX10_closes_582 (lv_at hl 3 rfl) ?_
                                refine zald hC hK hR (ct_m_present G _ _) (nI_T n4 (by omega)) (by omega) (by omega) (Int.toNat_natCast _) dX10_closes_584 ?_
                                have hb5 := (show KM s4 from hi0_557).2.2.1 n4
                                refine zast hC hK hG hR hS (fun _ => ct_m_hasX G _ _) (nI_T _ (by omega)) (by omega) (by omega) (Int.toNat_natCast _) (by first | assumption | exact Or.inl rfl | exact Or.inr rfl) dX10_closes_585 (fun s_9 es_10 H locs hR hS => ?_)
                                have L_636 : ∀ (s4b : SI), (KM s4b) → (MRel (fun k => (41 ≤ k ∧ k ≤ 46 ∧ k ≠ 42 ∧ k ≠ 43) ∨ (52 ≤ k ∧ k ≤ 69) ∨ k = 71) (fun j => j = 37 ∨ j = 41 ∨ j = 43 ∨ j = 44) σ s4b) → ∀ (H : Heap) (locs : List Loc) (ls : Array Slot), RepH G s4b t4 H → va_S A s.heap H locs → lv_has ls 17 [(0, .ref (G.2.1 35)), (1, .int ra), (2, .int x2), (13, .int (nI n4))] → W p l e (rmD 6) s m args below meth c H locs 0 0 (MQ below (va_Qi (po_X10_closes σ τ ra rq) (BU G) A) args s 0 0 A) (F0 m 636 ls []) := by
                                  intro s4b hi0_636 hi1_636 H locs ls hR hS hl
                                  refine lv_iinc (v := nI (n4 + 1)) (lv' := [(13, .int (nI (n4 + 1))), (0, .ref (G.2.1 35)), (1, .int ra), (2, .int x2)]) hC.x hC.b dX10_closes_636 hl (k := 3) rfl (nI_succ _).symm (by decide) rfl (fun ls hl => ?_)
                                  refine lv_goto (tgt := 557) hC.x hC.b dX10_closes_639 (by decide) ?_
                                  exact ih_557 (n4 + 1) s4b t4 (by omega) (by exact hi0_636) (by first | omega | assumption) hi1_636 _ _ _ hR hS (lv_sub hl [1, 2, 3, 0] rfl)
                                refine lv_aload_n hC.x hC.b dX10_closes_586 rfl (lv_at hl 0 rfl) ?_
                                refine rget hC hK hR (ct_model G _ _) rfl uin_X10 17 (by decide) TF_X10_62 rfl dX10_closes_587 ?_
                                refine lv_aload_n hC.x hC.b dX10_closes_590 rfl (lv_at hl 0 rfl) ?_
                                refine lv_aload_n hC.x hC.b dX10_closes_591 rfl (lv_at hl 0 rfl) ?_
                                refine rget hC hK hR (ct_model G _ _) rfl uin_X10 29 (by decide) TF_X10_137 rfl dX10_closes_592 ?_
                                have rd_11 : (s_9 35 29).toInt = (σ 35 29).toInt := congrArg Int32.toInt (Eq.trans (show s_9 35 29 = s4 35 29 from (by rw [es_10]; exact up2_o (by omega))) (show s4 35 29 = σ 35 29 from hi2_557.2 29 (by first | omega | (dsimp only; omega))))
                                refine lv_iload hC.x hC.b dX10_closes_595 (lv_at hl 3 rfl) ?_
                                have av_12 : (nI n4).toInt = (n4 : Int) := (nI_T n4 (by omega))
                                refine goip (runV (As := [.int (s_9 35 29), .int (nI n4)]) (rest := [.ref (G.2.1 53)]) hC hK hR hl.1 (c_X10_at l hG s_9 t4 (s_9 35 29) (((s_9 35 29).toInt).toNat) (by first | rfl | (rw [show (s_9 35 29).toInt = (s_9 35 29).toInt from rfl]; done) | (rw [show (s_9 35 29).toInt = (s_9 35 29).toInt from rfl]; exact rfl)) (nI n4) n4 (by first | rfl | (rw [show (nI n4).toInt = (n4 : Int) from (nI_T n4 (by omega))]; done) | (rw [show (nI n4).toInt = (n4 : Int) from (nI_T n4 (by omega))]; exact (Int.toNat_natCast _))) (by omega) (by omega)) (call_b hC.ts TC_X10_at TN_X10 TM_X10_140 hd_X10_at ⟨Nat.le_of_ble_eq_true rfl, Nat.le_of_ble_eq_true rfl⟩) TI_X10_at TS_X10_at (ct_model G _ _) rfl rfl rfl (Nat.le_of_ble_eq_true rfl) dX10_closes_597 ⟨Nat.le_of_ble_eq_true rfl, Nat.le_of_ble_eq_true rfl⟩) hS (fun v_13 H locs w_14 hR hS => ?_)
                                subst w_14
                                refine lv_aload_n hC.x hC.b dX10_closes_600 rfl (lv_at hl 0 rfl) ?_
                                refine rget hC hK hR (ct_model G _ _) rfl uin_X10 48 (by decide) TF_X10_126 rfl dX10_closes_601 ?_
                                refine lv_iload hC.x hC.b dX10_closes_604 (lv_at hl 3 rfl) ?_
                                refine zald hC hK hR (ct_m_present G _ _) (nI_T n4 (by omega)) (by omega) (by omega) (Int.toNat_natCast _) dX10_closes_606 ?_
                                have rd_15 : (s_9 71 n4).toInt = (s4 71 n4).toInt := congrArg Int32.toInt (show s_9 71 n4 = s4 71 n4 from (by rw [es_10]; exact up2_o (by omega)))
                                refine bz_eq (tgt := 634) (a := (s_9 71 n4).toInt) (b := 0) hC.x hC.b rfl rfl dX10_closes_607 (by decide) (fun c_16 => ?_) (fun c_16 => ?_)
                                · skip
                                  refine lv_iconst (v := 0) hC.x hC.b dX10_closes_634 (by decide) ?_
                                  refine zast hC hK hG hR hS (fun _ => ct_m_hasF G _ _) (nI_T _ (by omega)) (by omega) (by omega) (Int.toNat_natCast _) (Or.inl rfl) dX10_closes_635 (fun s_17 es_18 H locs hR hS => ?_)
                                  exact L_636 s_17 (by exact (by rw [es_18]; exact KM.up (by rw [es_10]; exact KM.up hi0_557 (by omega)) (by omega))) (by rw [es_18]; exact MRel.up ((by rw [es_10]; exact MRel.up (hi2_557) (by omega) (by first | omega | (dsimp only; omega)))) (by omega) (by first | omega | (dsimp only; omega))) _ _ _ hR hS (lv_sub hl [0, 1, 2, 3] rfl)
                                · skip
                                  refine lv_aload_n hC.x hC.b dX10_closes_610 rfl (lv_at hl 0 rfl) ?_
                                  refine rget hC hK hR (ct_model G _ _) rfl uin_X10 19 (by decide) TF_X10_68 rfl dX10_closes_611 ?_
                                  refine lv_aload_n hC.x hC.b dX10_closes_614 rfl (lv_at hl 0 rfl) ?_
                                  refine lv_aload_n hC.x hC.b dX10_closes_615 rfl (lv_at hl 0 rfl) ?_
                                  refine rget hC hK hR (ct_model G _ _) rfl uin_X10 29 (by decide) TF_X10_137 rfl dX10_closes_616 ?_
                                  have rd_19 : (s_9 35 29).toInt = (σ 35 29).toInt := congrArg Int32.toInt (Eq.trans (show s_9 35 29 = s4 35 29 from (by rw [es_10]; exact up2_o (by omega))) (show s4 35 29 = σ 35 29 from hi2_557.2 29 (by first | omega | (dsimp only; omega))))
                                  refine lv_iload hC.x hC.b dX10_closes_619 (lv_at hl 3 rfl) ?_
                                  have av_20 : (nI n4).toInt = (n4 : Int) := (nI_T n4 (by omega))
                                  refine goip (runV (As := [.int (s_9 35 29), .int (nI n4)]) (rest := [.ref (G.2.1 55), .int (nI (24 * (((s_9 35 29).toInt).toNat) + n4)), .ref (G.2.1 53)]) hC hK hR hl.1 (c_X10_at l hG s_9 t4 (s_9 35 29) (((s_9 35 29).toInt).toNat) (by first | rfl | (rw [show (s_9 35 29).toInt = (s_9 35 29).toInt from rfl]; done) | (rw [show (s_9 35 29).toInt = (s_9 35 29).toInt from rfl]; exact rfl)) (nI n4) n4 (by first | rfl | (rw [show (nI n4).toInt = (n4 : Int) from (nI_T n4 (by omega))]; done) | (rw [show (nI n4).toInt = (n4 : Int) from (nI_T n4 (by omega))]; exact (Int.toNat_natCast _))) (by omega) (by omega)) (call_b hC.ts TC_X10_at TN_X10 TM_X10_140 hd_X10_at ⟨Nat.le_of_ble_eq_true rfl, Nat.le_of_ble_eq_true rfl⟩) TI_X10_at TS_X10_at (ct_model G _ _) rfl rfl rfl (Nat.le_of_ble_eq_true rfl) dX10_closes_621 ⟨Nat.le_of_ble_eq_true rfl, Nat.le_of_ble_eq_true rfl⟩) hS (fun v_21 H locs w_22 hR hS => ?_)
                                  subst w_22
                                  refine ald hC hK hR (ct_m_fs G _ _) (nI_T _ (by omega)) (by omega) (by omega) (Int.toNat_natCast _) dX10_closes_624 ?_
                                  have rd_23 : (s_9 55 (24 * (((s_9 35 29).toInt).toNat) + n4)).toInt = (s4 55 (24 * (((s_9 35 29).toInt).toNat) + n4)).toInt := congrArg Int32.toInt (show s_9 55 (24 * (((s_9 35 29).toInt).toNat) + n4) = s4 55 (24 * (((s_9 35 29).toInt).toNat) + n4) from (by rw [es_10]; exact up2_o (by omega)))
                                  refine lv_ldc hC.x hC.b hC.ow (hC.ts _ TK_X10_203) dX10_closes_625 ?_
                                  refine bi_eq (tgt := 634) (a := (s_9 55 (24 * (((s_9 35 29).toInt).toNat) + n4)).toInt) (b := 2000000000) hC.x hC.b rfl rfl dX10_closes_627 (by decide) (fun c_24 => ?_) (fun c_24 => ?_)
                                  · skip
                                    refine lv_iconst (v := 0) hC.x hC.b dX10_closes_634 (by decide) ?_
                                    refine zast hC hK hG hR hS (fun _ => ct_m_hasF G _ _) (nI_T _ (by omega)) (by omega) (by omega) (Int.toNat_natCast _) (Or.inl rfl) dX10_closes_635 (fun s_25 es_26 H locs hR hS => ?_)
                                    exact L_636 s_25 (by exact (by rw [es_26]; exact KM.up (by rw [es_10]; exact KM.up hi0_557 (by omega)) (by omega))) (by rw [es_26]; exact MRel.up ((by rw [es_10]; exact MRel.up (hi2_557) (by omega) (by first | omega | (dsimp only; omega)))) (by omega) (by first | omega | (dsimp only; omega))) _ _ _ hR hS (lv_sub hl [0, 1, 2, 3] rfl)
                                  · skip
                                    refine lv_iconst (v := 1) hC.x hC.b dX10_closes_630 (by decide) ?_
                                    refine lv_goto (tgt := 635) hC.x hC.b dX10_closes_631 (by decide) ?_
                                    refine zast hC hK hG hR hS (fun _ => ct_m_hasF G _ _) (nI_T _ (by omega)) (by omega) (by omega) (Int.toNat_natCast _) (Or.inr rfl) dX10_closes_635 (fun s_27 es_28 H locs hR hS => ?_)
                                    exact L_636 s_27 (by exact (by rw [es_28]; exact KM.up (by rw [es_10]; exact KM.up hi0_557 (by omega)) (by omega))) (by rw [es_28]; exact MRel.up ((by rw [es_10]; exact MRel.up (hi2_557) (by omega) (by first | omega | (dsimp only; omega)))) (by omega) (by first | omega | (dsimp only; omega))) _ _ _ hR hS (lv_sub hl [0, 1, 2, 3] rfl)
                          exact L_557 _ 0 s3 t3 (Nat.lt_succ_self _) (by exact hi0_403) (by first | omega | assumption) hi2_403 _ _ _ hR hS (lv_sub hl [1, 2, 3, 0] rfl)
                        · skip
                          have L_548 : ∀ (s3c : SI) (t3c : SL), (KM s3c) → (MRel (fun k => (41 ≤ k ∧ k ≤ 46 ∧ k ≠ 42 ∧ k ≠ 43) ∨ (52 ≤ k ∧ k ≤ 69) ∨ k = 71) (fun j => j = 37 ∨ j = 41 ∨ j = 43 ∨ j = 44) σ s3c) → ∀ (H : Heap) (locs : List Loc) (ls : Array Slot), RepH G s3c t3c H → va_S A s.heap H locs → lv_has ls 17 [(0, .ref (G.2.1 35)), (1, .int ra), (2, .int x2), (11, .long x11), (13, .int (nI n3))] → W p l e (rmD 6) s m args below meth c H locs 0 0 (MQ below (va_Qi (po_X10_closes σ τ ra rq) (BU G) A) args s 0 0 A) (F0 m 548 ls []) := by
                            intro s3c t3c hi0_548 hi1_548 H locs ls hR hS hl
                            refine lv_iinc (v := nI (n3 + 1)) (lv' := [(13, .int (nI (n3 + 1))), (0, .ref (G.2.1 35)), (1, .int ra), (2, .int x2), (11, .long x11)]) hC.x hC.b dX10_closes_548 hl (k := 4) rfl (nI_succ _).symm (by decide) rfl (fun ls hl => ?_)
                            refine lv_goto (tgt := 403) hC.x hC.b dX10_closes_551 (by decide) ?_
                            exact ih_403 (n3 + 1) s3c t3c (by omega) (by exact hi0_548) (by first | omega | assumption) hi1_548 _ _ _ hR hS (lv_sub hl [1, 2, 3, 4, 0] rfl)
                          refine lv_aload_n hC.x hC.b dX10_closes_410 rfl (lv_at hl 0 rfl) ?_
                          refine rget hC hK hR (ct_model G _ _) rfl uin_X10 48 (by decide) TF_X10_126 rfl dX10_closes_411 ?_
                          refine lv_iload hC.x hC.b dX10_closes_414 (lv_at hl 4 rfl) ?_
                          refine zald hC hK hR (ct_m_present G _ _) (nI_T n3 (by omega)) (by omega) (by omega) (Int.toNat_natCast _) dX10_closes_416 ?_
                          refine bz_ne (tgt := 423) (a := (s3 71 n3).toInt) (b := 0) hC.x hC.b rfl rfl dX10_closes_417 (by decide) (fun c_29 => ?_) (fun c_29 => ?_)
                          · skip
                            refine lv_aload_n hC.x hC.b dX10_closes_423 rfl (lv_at hl 0 rfl) ?_
                            refine lv_aload_n hC.x hC.b dX10_closes_424 rfl (lv_at hl 0 rfl) ?_
                            refine rget hC hK hR (ct_model G _ _) rfl uin_X10 29 (by decide) TF_X10_137 rfl dX10_closes_425 ?_
                            have rd_30 : (s3 35 29).toInt = (σ 35 29).toInt := congrArg Int32.toInt (show s3 35 29 = σ 35 29 from hi2_403.2 29 (by first | omega | (dsimp only; omega)))
                            refine lv_iload hC.x hC.b dX10_closes_428 (lv_at hl 4 rfl) ?_
                            have av_31 : (nI n3).toInt = (n3 : Int) := (nI_T n3 (by omega))
                            refine goip (runV (As := [.int (s3 35 29), .int (nI n3)]) (rest := []) hC hK hR hl.1 (c_X10_at l hG s3 t3 (s3 35 29) (((s3 35 29).toInt).toNat) (by first | rfl | (rw [show (s3 35 29).toInt = (s3 35 29).toInt from rfl]; done) | (rw [show (s3 35 29).toInt = (s3 35 29).toInt from rfl]; exact rfl)) (nI n3) n3 (by first | rfl | (rw [show (nI n3).toInt = (n3 : Int) from (nI_T n3 (by omega))]; done) | (rw [show (nI n3).toInt = (n3 : Int) from (nI_T n3 (by omega))]; exact (Int.toNat_natCast _))) (by omega) (by omega)) (call_b hC.ts TC_X10_at TN_X10 TM_X10_140 hd_X10_at ⟨Nat.le_of_ble_eq_true rfl, Nat.le_of_ble_eq_true rfl⟩) TI_X10_at TS_X10_at (ct_model G _ _) rfl rfl rfl (Nat.le_of_ble_eq_true rfl) dX10_closes_430 ⟨Nat.le_of_ble_eq_true rfl, Nat.le_of_ble_eq_true rfl⟩) hS (fun v_32 H locs w_33 hR hS => ?_)
                            subst w_33
                            refine lv_topi (fun x_34 ex_35 => ?_)
                            have pr_36 : x_34.toInt = (((24 * (((s3 35 29).toInt).toNat) + n3) : Nat) : Int) := by rw [ex_35]; exact (nI_T _ (by omega))
                            refine lv_istore (lv' := [(14, .int x_34), (0, .ref (G.2.1 35)), (1, .int ra), (2, .int x2), (11, .long x11), (13, .int (nI n3))]) hC.x hC.b dX10_closes_433 hl (by decide) rfl (fun ls hl => ?_)
                            refine lv_aload_n hC.x hC.b dX10_closes_435 rfl (lv_at hl 1 rfl) ?_
                            refine rget hC hK hR (ct_model G _ _) rfl uin_X10 18 (by decide) TF_X10_65 rfl dX10_closes_436 ?_
                            refine lv_iload hC.x hC.b dX10_closes_439 (lv_at hl 0 rfl) ?_
                            refine lv_lload hC.x hC.b dX10_closes_441 (lv_at hl 4 rfl) ?_
                            refine lv_aload_n hC.x hC.b dX10_closes_443 rfl (lv_at hl 1 rfl) ?_
                            refine rget hC hK hR (ct_model G _ _) rfl uin_X10 22 (by decide) TF_X10_77 rfl dX10_closes_444 ?_
                            refine lv_iload hC.x hC.b dX10_closes_447 (lv_at hl 0 rfl) ?_
                            refine ald hC hK hR (ct_m_ds G _ _) pr_36 (by omega) (by omega) rfl dX10_closes_449 ?_
                            refine lv_i2l hC.x hC.b dX10_closes_450 rfl ?_
                            refine lv_lsub hC.x hC.b dX10_closes_451 ?_
                            refine lv_l2i hC.x hC.b dX10_closes_452 rfl ?_
                            refine ast hC hK hG hR hS (fun _ => ct_m_xs G _ _) pr_36 (by omega) (by omega) rfl dX10_closes_453 (fun s_37 es_38 H locs hR hS => ?_)
                            refine lv_aload_n hC.x hC.b dX10_closes_454 rfl (lv_at hl 1 rfl) ?_
                            refine rget hC hK hR (ct_model G _ _) rfl uin_X10 18 (by decide) TF_X10_65 rfl dX10_closes_455 ?_
                            refine lv_iload hC.x hC.b dX10_closes_458 (lv_at hl 0 rfl) ?_
                            refine ald hC hK hR (ct_m_xs G _ _) pr_36 (by omega) (by omega) rfl dX10_closes_460 ?_
                            have rd_39 : (s_37 54 ((((24 * (((s3 35 29).toInt).toNat) + n3) : Nat) : Int).toNat)).toInt = ((x11 - (s3 58 ((((24 * (((s3 35 29).toInt).toNat) + n3) : Nat) : Int).toNat)).toInt64).toInt32).toInt := congrArg Int32.toInt (show s_37 54 ((((24 * (((s3 35 29).toInt).toNat) + n3) : Nat) : Int).toNat) = ((x11 - (s3 58 ((((24 * (((s3 35 29).toInt).toNat) + n3) : Nat) : Int).toNat)).toInt64).toInt32) from (by rw [es_38]; exact up2_s))
                            refine lv_i2l hC.x hC.b dX10_closes_461 rfl ?_
                            refine lv_aload_n hC.x hC.b dX10_closes_462 rfl (lv_at hl 1 rfl) ?_
                            refine rget hC hK hR (ct_model G _ _) rfl uin_X10 19 (by decide) TF_X10_68 rfl dX10_closes_463 ?_
                            refine lv_iload hC.x hC.b dX10_closes_466 (lv_at hl 0 rfl) ?_
                            refine ald hC hK hR (ct_m_fs G _ _) pr_36 (by omega) (by omega) rfl dX10_closes_468 ?_
                            have rd_40 : (s_37 55 ((((24 * (((s3 35 29).toInt).toNat) + n3) : Nat) : Int).toNat)).toInt = (s3 55 ((((24 * (((s3 35 29).toInt).toNat) + n3) : Nat) : Int).toNat)).toInt := congrArg Int32.toInt (show s_37 55 ((((24 * (((s3 35 29).toInt).toNat) + n3) : Nat) : Int).toNat) = s3 55 ((((24 * (((s3 35 29).toInt).toNat) + n3) : Nat) : Int).toNat) from (by rw [es_38]; exact up2_o (by omega)))
                            refine lv_i2l hC.x hC.b dX10_closes_469 rfl ?_
                            refine lv_lsub hC.x hC.b dX10_closes_470 ?_
                            refine lv_topl (fun x_41 ex_42 => ?_)
                            refine lv_lstore (lv' := [(15, .long x_41), (14, .int x_34), (0, .ref (G.2.1 35)), (1, .int ra), (2, .int x2), (11, .long x11), (13, .int (nI n3))]) hC.x hC.b dX10_closes_471 hl (by decide) rfl (fun ls hl => ?_)
                            have L_513 : ∀ (s3b : SI), (KM s3b) → (MRel (fun k => (41 ≤ k ∧ k ≤ 46 ∧ k ≠ 42 ∧ k ≠ 43) ∨ (52 ≤ k ∧ k ≤ 69) ∨ k = 71) (fun j => j = 37 ∨ j = 41 ∨ j = 43 ∨ j = 44) σ s3b) → ∀ (H : Heap) (locs : List Loc) (ls : Array Slot), RepH G s3b t3 H → va_S A s.heap H locs → lv_has ls 17 [(0, .ref (G.2.1 35)), (1, .int ra), (2, .int x2), (11, .long x11), (13, .int (nI n3)), (14, .int x_34)] → W p l e (rmD 6) s m args below meth c H locs 0 0 (MQ below (va_Qi (po_X10_closes σ τ ra rq) (BU G) A) args s 0 0 A) (F0 m 513 ls []) := by
                              intro s3b hi0_513 hi1_513 H locs ls hR hS hl
                              refine lv_aload_n hC.x hC.b dX10_closes_513 rfl (lv_at hl 0 rfl) ?_
                              refine rget hC hK hR (ct_model G _ _) rfl uin_X10 19 (by decide) TF_X10_68 rfl dX10_closes_514 ?_
                              refine lv_iload hC.x hC.b dX10_closes_517 (lv_at hl 5 rfl) ?_
                              refine ald hC hK hR (ct_m_fs G _ _) pr_36 (by omega) (by omega) rfl dX10_closes_519 ?_
                              refine lv_ldc hC.x hC.b hC.ow (hC.ts _ TK_X10_203) dX10_closes_520 ?_
                              refine bi_eq (tgt := 548) (a := (s3b 55 ((((24 * (((s3 35 29).toInt).toNat) + n3) : Nat) : Int).toNat)).toInt) (b := 2000000000) hC.x hC.b rfl rfl dX10_closes_522 (by decide) (fun c_43 => ?_) (fun c_43 => ?_)
                              · skip
                                exact L_548 s3b t3 (by exact hi0_513) hi1_513 _ _ _ hR hS (lv_sub hl [0, 1, 2, 3, 4] rfl)
                              · skip
                                refine lv_aload_n hC.x hC.b dX10_closes_525 rfl (lv_at hl 0 rfl) ?_
                                refine rget hC hK hR (ct_model G _ _) rfl uin_X10 5 (by decide) TF_X10_26 rfl dX10_closes_526 ?_
                                refine lv_iload hC.x hC.b dX10_closes_529 (lv_at hl 4 rfl) ?_
                                refine zald hC hK hR (ct_m_isOut G _ _) (nI_T n3 (by omega)) (by omega) (by omega) (Int.toNat_natCast _) dX10_closes_531 ?_
                                refine bz_ne (tgt := 548) (a := (s3b 41 n3).toInt) (b := 0) hC.x hC.b rfl rfl dX10_closes_532 (by decide) (fun c_44 => ?_) (fun c_44 => ?_)
                                · skip
                                  exact L_548 s3b t3 (by exact hi0_513) hi1_513 _ _ _ hR hS (lv_sub hl [0, 1, 2, 3, 4] rfl)
                                · skip
                                  refine lv_aload_n hC.x hC.b dX10_closes_535 rfl (lv_at hl 0 rfl) ?_
                                  refine lv_iload hC.x hC.b dX10_closes_536 (lv_at hl 4 rfl) ?_
                                  refine lv_aload_n hC.x hC.b dX10_closes_538 rfl (lv_at hl 0 rfl) ?_
                                  refine rget hC hK hR (ct_model G _ _) rfl uin_X10 20 (by decide) TF_X10_71 rfl dX10_closes_539 ?_
                                  refine lv_iload hC.x hC.b dX10_closes_542 (lv_at hl 5 rfl) ?_
                                  refine ald hC hK hR (ct_m_ms G _ _) pr_36 (by omega) (by omega) rfl dX10_closes_544 ?_
                                  have av_45 : (nI n3).toInt = (n3 : Int) := (nI_T n3 (by omega))
                                  have rd_46 : (s3b 35 29).toInt = (σ 35 29).toInt := congrArg Int32.toInt (show s3b 35 29 = σ 35 29 from hi1_513.2 29 (by first | omega | (dsimp only; omega)))
                                  refine gov (runV (As := [.int (nI n3), .int (s3b 56 ((((24 * (((s3 35 29).toInt).toNat) + n3) : Nat) : Int).toNat))]) (rest := []) hC hK hR hl.1 (c_X10_looks l hG s3b t3 (nI n3) n3 (by first | rfl | (rw [show (nI n3).toInt = (n3 : Int) from (nI_T n3 (by omega))]; done) | (rw [show (nI n3).toInt = (n3 : Int) from (nI_T n3 (by omega))]; exact (Int.toNat_natCast _))) (s3b 56 ((((24 * (((s3 35 29).toInt).toNat) + n3) : Nat) : Int).toNat)) (by first | assumption | omega) (by omega) (by exact hi0_513)) (call_b hC.ts TC_X10_looks TN_X10 TM_X10_244 hd_X10_looks ⟨Nat.le_of_ble_eq_true rfl, Nat.le_of_ble_eq_true rfl⟩) TI_X10_looks TS_X10_looks (ct_model G _ _) rfl rfl rfl (Nat.le_of_ble_eq_true rfl) dX10_closes_545 ⟨Nat.le_of_ble_eq_true rfl, Nat.le_of_ble_eq_true rfl⟩) hS (fun s_49 t_50 H locs w_48 hR hS => ?_)
                                  try dsimp only [po_X10_looks] at w_48
                                  obtain ⟨f_51, f_52⟩ := w_48
                                  exact L_548 s_49 t_50 (by exact f_52) (MRel.tr hi1_513 (MRel.mo f_51 (by intro k q; first | omega | (dsimp only at q ⊢; omega) | exact q.elim) (by intro j q; first | omega | (dsimp only at q ⊢; omega) | exact q.elim))) _ _ _ hR hS (lv_sub hl [0, 1, 2, 3, 4] rfl)
                            refine lv_aload_n hC.x hC.b dX10_closes_473 rfl (lv_at hl 2 rfl) ?_
                            refine rget hC hK hR (ct_model G _ _) rfl uin_X10 20 (by decide) TF_X10_71 rfl dX10_closes_474 ?_
                            refine lv_iload hC.x hC.b dX10_closes_477 (lv_at hl 1 rfl) ?_
                            refine lv_lload hC.x hC.b dX10_closes_479 (lv_at hl 0 rfl) ?_
                            refine lv_ldc2 hC.x hC.b hC.ow (hC.ts _ TK_X10_240) dX10_closes_481 ?_
                            refine bl_le (tgt := 494) (a := x_41.toInt) (b := 30000) hC.x hC.b rfl rfl dX10_closes_484 dX10_closes_485 (by decide) (fun c_53 => ?_) (fun c_53 => ?_)
                            · skip
                              refine lv_lload hC.x hC.b dX10_closes_494 (lv_at hl 0 rfl) ?_
                              refine lv_ldc2 hC.x hC.b hC.ow (hC.ts _ TK_X10_242) dX10_closes_496 ?_
                              refine bl_ge (tgt := 509) (a := x_41.toInt) (b := (-30000)) hC.x hC.b rfl rfl dX10_closes_499 dX10_closes_500 (by decide) (fun c_54 => ?_) (fun c_54 => ?_)
                              · skip
                                refine lv_lload hC.x hC.b dX10_closes_509 (lv_at hl 0 rfl) ?_
                                refine lv_l2i hC.x hC.b dX10_closes_511 rfl ?_
                                have pr_55 : x_41.toInt32.toInt = x_41.toInt := l2iI rfl (by omega) (by omega)
                                refine ast hC hK hG hR hS (fun _ => ct_m_ms G _ _) pr_36 (by omega) (by omega) rfl dX10_closes_512 (fun s_56 es_57 H locs hR hS => ?_)
                                exact L_513 s_56 (by exact (by rw [es_57]; exact KM.u56 (by rw [es_38]; exact KM.up hi0_403 (by omega)) (by first | omega | decide))) (by rw [es_57]; exact MRel.up ((by rw [es_38]; exact MRel.up (hi2_403) (by omega) (by first | omega | (dsimp only; omega)))) (by omega) (by first | omega | (dsimp only; omega))) _ _ _ hR hS (lv_sub hl [2, 3, 4, 5, 6, 1] rfl)
                              · skip
                                refine lv_sipush (v := (-30000)) hC.x hC.b dX10_closes_503 (by decide) ?_
                                refine lv_goto (tgt := 512) hC.x hC.b dX10_closes_506 (by decide) ?_
                                refine ast hC hK hG hR hS (fun _ => ct_m_ms G _ _) pr_36 (by omega) (by omega) rfl dX10_closes_512 (fun s_58 es_59 H locs hR hS => ?_)
                                exact L_513 s_58 (by exact (by rw [es_59]; exact KM.u56 (by rw [es_38]; exact KM.up hi0_403 (by omega)) (by first | omega | decide))) (by rw [es_59]; exact MRel.up ((by rw [es_38]; exact MRel.up (hi2_403) (by omega) (by first | omega | (dsimp only; omega)))) (by omega) (by first | omega | (dsimp only; omega))) _ _ _ hR hS (lv_sub hl [2, 3, 4, 5, 6, 1] rfl)
                            · skip
                              refine lv_sipush (v := 30000) hC.x hC.b dX10_closes_488 (by decide) ?_
                              refine lv_goto (tgt := 512) hC.x hC.b dX10_closes_491 (by decide) ?_
                              refine ast hC hK hG hR hS (fun _ => ct_m_ms G _ _) pr_36 (by omega) (by omega) rfl dX10_closes_512 (fun s_60 es_61 H locs hR hS => ?_)
                              exact L_513 s_60 (by exact (by rw [es_61]; exact KM.u56 (by rw [es_38]; exact KM.up hi0_403 (by omega)) (by first | omega | decide))) (by rw [es_61]; exact MRel.up ((by rw [es_38]; exact MRel.up (hi2_403) (by omega) (by first | omega | (dsimp only; omega)))) (by omega) (by first | omega | (dsimp only; omega))) _ _ _ hR hS (lv_sub hl [2, 3, 4, 5, 6, 1] rfl)
                          · skip
                            refine lv_goto (tgt := 548) hC.x hC.b dX10_closes_420 (by decide) ?_
                            exact L_548 s3 t3 (by exact hi0_403) hi2_403 _ _ _ hR hS (lv_sub hl [0, 1, 2, 3, 4] rfl)
                    exact L_403 _ 0 s5 t2 (Nat.lt_succ_self _) (by exact hi0_400) (by first | omega | assumption) hi1_400 _ _ _ hR hS (lv_sub hl [1, 2, 3, 4, 0] rfl)
                  refine lv_aload_n hC.x hC.b dX10_closes_349 rfl (lv_at hl 0 rfl) ?_
                  refine rget hC hK hR (ct_model G _ _) rfl uin_X10 24 (by decide) TF_X10_83 rfl dX10_closes_350 ?_
                  refine lv_aload_n hC.x hC.b dX10_closes_353 rfl (lv_at hl 0 rfl) ?_
                  refine rget hC hK hR (ct_model G _ _) rfl uin_X10 29 (by decide) TF_X10_137 rfl dX10_closes_354 ?_
                  have rd_62 : (s2 35 29).toInt = (σ 35 29).toInt := congrArg Int32.toInt (show s2 35 29 = σ 35 29 from hi2_203.2 29 (by first | omega | (dsimp only; omega)))
                  refine lv_iload_n hC.x hC.b dX10_closes_357 rfl (lv_at hl 2 rfl) ?_
                  refine ast hC hK hG hR hS (fun _ => ct_m_presents G _ _) rfl (by omega) (by omega) rfl dX10_closes_358 (fun s_63 es_64 H locs hR hS => ?_)
                  refine lv_aload_n hC.x hC.b dX10_closes_359 rfl (lv_at hl 0 rfl) ?_
                  refine rget hC hK hR (ct_model G _ _) rfl uin_X10 28 (by decide) TF_X10_95 rfl dX10_closes_360 ?_
                  refine lv_aload_n hC.x hC.b dX10_closes_363 rfl (lv_at hl 0 rfl) ?_
                  refine rget hC hK hR (ct_model G _ _) rfl uin_X10 29 (by decide) TF_X10_137 rfl dX10_closes_364 ?_
                  have rd_65 : (s_63 35 29).toInt = (σ 35 29).toInt := congrArg Int32.toInt (Eq.trans (show s_63 35 29 = s2 35 29 from (by rw [es_64]; exact up2_o (by omega))) (show s2 35 29 = σ 35 29 from hi2_203.2 29 (by first | omega | (dsimp only; omega))))
                  refine lv_lload hC.x hC.b dX10_closes_367 (lv_at hl 3 rfl) ?_
                  refine lv_l2i hC.x hC.b dX10_closes_369 rfl ?_
                  refine ast hC hK hG hR hS (fun _ => ct_m_sums G _ _) rfl (by omega) (by omega) rfl dX10_closes_370 (fun s_66 es_67 H locs hR hS => ?_)
                  refine lv_aload_n hC.x hC.b dX10_closes_371 rfl (lv_at hl 0 rfl) ?_
                  refine rget hC hK hR (ct_model G _ _) rfl uin_X10 25 (by decide) TF_X10_86 rfl dX10_closes_372 ?_
                  refine lv_aload_n hC.x hC.b dX10_closes_375 rfl (lv_at hl 0 rfl) ?_
                  refine rget hC hK hR (ct_model G _ _) rfl uin_X10 29 (by decide) TF_X10_137 rfl dX10_closes_376 ?_
                  have rd_68 : (s_66 35 29).toInt = (σ 35 29).toInt := congrArg Int32.toInt (Eq.trans (show s_66 35 29 = s_63 35 29 from (by rw [es_67]; exact up2_o (by omega))) (Eq.trans (show s_63 35 29 = s2 35 29 from (by rw [es_64]; exact up2_o (by omega))) (show s2 35 29 = σ 35 29 from hi2_203.2 29 (by first | omega | (dsimp only; omega)))))
                  refine lv_lload hC.x hC.b dX10_closes_379 (lv_at hl 3 rfl) ?_
                  refine lv_lconst (v := 0) hC.x hC.b dX10_closes_381 (by decide) ?_
                  refine bl_ne (tgt := 390) (a := x7.toInt) (b := 0) hC.x hC.b rfl rfl dX10_closes_382 dX10_closes_383 (by decide) (fun c_69 => ?_) (fun c_69 => ?_)
                  · skip
                    refine lv_lload hC.x hC.b dX10_closes_390 (lv_at hl 4 rfl) ?_
                    refine lv_lload hC.x hC.b dX10_closes_392 (lv_at hl 5 rfl) ?_
                    refine lv_lload hC.x hC.b dX10_closes_394 (lv_at hl 3 rfl) ?_
                    refine lv_lmul hC.x hC.b dX10_closes_396 ?_
                    refine lv_lsub hC.x hC.b dX10_closes_397 ?_
                    refine lv_l2i hC.x hC.b dX10_closes_398 rfl ?_
                    refine ast hC hK hG hR hS (fun _ => ct_m_rests G _ _) rfl (by omega) (by omega) rfl dX10_closes_399 (fun s_70 es_71 H locs hR hS => ?_)
                    exact L_400 s_70 (by exact (by rw [es_71]; exact KM.up (by rw [es_67]; exact KM.up (by rw [es_64]; exact KM.up hi0_203 (by omega)) (by omega)) (by omega))) (by rw [es_71]; exact MRel.up ((by rw [es_67]; exact MRel.up ((by rw [es_64]; exact MRel.up (hi2_203) (by omega) (by first | omega | (dsimp only; omega)))) (by omega) (by first | omega | (dsimp only; omega)))) (by omega) (by first | omega | (dsimp only; omega))) _ _ _ hR hS (lv_sub hl [0, 1, 2, 5] rfl)
                  · skip
                    refine lv_iconst (v := 0) hC.x hC.b dX10_closes_386 (by decide) ?_
                    refine lv_goto (tgt := 399) hC.x hC.b dX10_closes_387 (by decide) ?_
                    refine ast hC hK hG hR hS (fun _ => ct_m_rests G _ _) rfl (by omega) (by omega) rfl dX10_closes_399 (fun s_72 es_73 H locs hR hS => ?_)
                    exact L_400 s_72 (by exact (by rw [es_73]; exact KM.up (by rw [es_67]; exact KM.up (by rw [es_64]; exact KM.up hi0_203 (by omega)) (by omega)) (by omega))) (by rw [es_73]; exact MRel.up ((by rw [es_67]; exact MRel.up ((by rw [es_64]; exact MRel.up (hi2_203) (by omega) (by first | omega | (dsimp only; omega)))) (by omega) (by first | omega | (dsimp only; omega)))) (by omega) (by first | omega | (dsimp only; omega))) _ _ _ hR hS (lv_sub hl [0, 1, 2, 5] rfl)
                refine lv_lload hC.x hC.b dX10_closes_329 (lv_at hl 4 rfl) ?_
                refine lv_lconst (v := 0) hC.x hC.b dX10_closes_331 (by decide) ?_
                refine bl_ne (tgt := 340) (a := x7.toInt) (b := 0) hC.x hC.b rfl rfl dX10_closes_332 dX10_closes_333 (by decide) (fun c_74 => ?_) (fun c_74 => ?_)
                · skip
                  refine lv_lload hC.x hC.b dX10_closes_340 (lv_at hl 5 rfl) ?_
                  refine lv_lload hC.x hC.b dX10_closes_342 (lv_at hl 4 rfl) ?_
                  refine golp (runS (As := [.long x9, .long x7]) (rest := []) hC hK hR hl.1 (c_X10_downwards l hG s2 t2 x9 x7 (by omega)) (call_b hC.ts TC_X10_downwards TN_X10 TM_X10_192 hd_X10_downwards ⟨Nat.le_of_ble_eq_true rfl, Nat.le_of_ble_eq_true rfl⟩) TT_X10_downwards rfl rfl (Nat.le_of_ble_eq_true rfl) dX10_closes_344 ⟨Nat.le_of_ble_eq_true rfl, Nat.le_of_ble_eq_true rfl⟩) hS (fun v_75 H locs w_76 hR hS => ?_)
                  refine lv_lstore (lv' := [(11, .long v_75), (0, .ref (G.2.1 35)), (1, .int ra), (2, .int x2), (5, .long x5), (7, .long x7), (9, .long x9)]) hC.x hC.b dX10_closes_347 hl (by decide) rfl (fun ls hl => ?_)
                  exact L_349 v_75  _ _ _ hR hS (lv_sub hl [1, 2, 3, 5, 6, 0] rfl)
                · skip
                  refine lv_lconst (v := 0) hC.x hC.b dX10_closes_336 (by decide) ?_
                  refine lv_goto (tgt := 347) hC.x hC.b dX10_closes_337 (by decide) ?_
                  refine lv_lstore (lv' := [(11, .long (0 : Int64)), (0, .ref (G.2.1 35)), (1, .int ra), (2, .int x2), (5, .long x5), (7, .long x7), (9, .long x9)]) hC.x hC.b dX10_closes_347 hl (by decide) rfl (fun ls hl => ?_)
                  exact L_349 (0 : Int64)  _ _ _ hR hS (lv_sub hl [1, 2, 3, 5, 6, 0] rfl)
              · skip
                have L_323 : ∀ (y7 : Int64) (y9 : Int64) (s2c : SI), (KM s2c) → (MRel (fun k => (41 ≤ k ∧ k ≤ 46 ∧ k ≠ 42 ∧ k ≠ 43) ∨ (52 ≤ k ∧ k ≤ 69) ∨ k = 71) (fun j => j = 37 ∨ j = 41 ∨ j = 43 ∨ j = 44) σ s2c) → ∀ (H : Heap) (locs : List Loc) (ls : Array Slot), RepH G s2c t2 H → va_S A s.heap H locs → lv_has ls 17 [(0, .ref (G.2.1 35)), (1, .int ra), (2, .int x2), (5, .long x5), (7, .long y7), (9, .long y9), (11, .int (nI n2))] → W p l e (rmD 6) s m args below meth c H locs 0 0 (MQ below (va_Qi (po_X10_closes σ τ ra rq) (BU G) A) args s 0 0 A) (F0 m 323 ls []) := by
                  intro y7 y9 s2c hi0_323 hi1_323 H locs ls hR hS hl
                  refine lv_iinc (v := nI (n2 + 1)) (lv' := [(11, .int (nI (n2 + 1))), (0, .ref (G.2.1 35)), (1, .int ra), (2, .int x2), (5, .long x5), (7, .long y7), (9, .long y9)]) hC.x hC.b dX10_closes_323 hl (k := 6) rfl (nI_succ _).symm (by decide) rfl (fun ls hl => ?_)
                  refine lv_goto (tgt := 203) hC.x hC.b dX10_closes_326 (by decide) ?_
                  exact ih_203 y7 y9 (n2 + 1) s2c t2 (by omega) (by exact hi0_323) (by first | omega | assumption) hi1_323 _ _ _ hR hS (lv_sub hl [1, 2, 3, 4, 5, 6, 0] rfl)
                refine lv_aload_n hC.x hC.b dX10_closes_210 rfl (lv_at hl 0 rfl) ?_
                refine rget hC hK hR (ct_model G _ _) rfl uin_X10 48 (by decide) TF_X10_126 rfl dX10_closes_211 ?_
                refine lv_iload hC.x hC.b dX10_closes_214 (lv_at hl 6 rfl) ?_
                refine zald hC hK hR (ct_m_present G _ _) (nI_T n2 (by omega)) (by omega) (by omega) (Int.toNat_natCast _) dX10_closes_216 ?_
                refine bz_ne (tgt := 223) (a := (s2 71 n2).toInt) (b := 0) hC.x hC.b rfl rfl dX10_closes_217 (by decide) (fun c_77 => ?_) (fun c_77 => ?_)
                · skip
                  refine lv_aload_n hC.x hC.b dX10_closes_223 rfl (lv_at hl 0 rfl) ?_
                  refine lv_aload_n hC.x hC.b dX10_closes_224 rfl (lv_at hl 0 rfl) ?_
                  refine rget hC hK hR (ct_model G _ _) rfl uin_X10 29 (by decide) TF_X10_137 rfl dX10_closes_225 ?_
                  have rd_78 : (s2 35 29).toInt = (σ 35 29).toInt := congrArg Int32.toInt (show s2 35 29 = σ 35 29 from hi2_203.2 29 (by first | omega | (dsimp only; omega)))
                  refine lv_iload hC.x hC.b dX10_closes_228 (lv_at hl 6 rfl) ?_
                  have av_79 : (nI n2).toInt = (n2 : Int) := (nI_T n2 (by omega))
                  refine goip (runV (As := [.int (s2 35 29), .int (nI n2)]) (rest := []) hC hK hR hl.1 (c_X10_at l hG s2 t2 (s2 35 29) (((s2 35 29).toInt).toNat) (by first | rfl | (rw [show (s2 35 29).toInt = (s2 35 29).toInt from rfl]; done) | (rw [show (s2 35 29).toInt = (s2 35 29).toInt from rfl]; exact rfl)) (nI n2) n2 (by first | rfl | (rw [show (nI n2).toInt = (n2 : Int) from (nI_T n2 (by omega))]; done) | (rw [show (nI n2).toInt = (n2 : Int) from (nI_T n2 (by omega))]; exact (Int.toNat_natCast _))) (by omega) (by omega)) (call_b hC.ts TC_X10_at TN_X10 TM_X10_140 hd_X10_at ⟨Nat.le_of_ble_eq_true rfl, Nat.le_of_ble_eq_true rfl⟩) TI_X10_at TS_X10_at (ct_model G _ _) rfl rfl rfl (Nat.le_of_ble_eq_true rfl) dX10_closes_230 ⟨Nat.le_of_ble_eq_true rfl, Nat.le_of_ble_eq_true rfl⟩) hS (fun v_80 H locs w_81 hR hS => ?_)
                  subst w_81
                  refine lv_topi (fun x_82 ex_83 => ?_)
                  have pr_84 : x_82.toInt = (((24 * (((s2 35 29).toInt).toNat) + n2) : Nat) : Int) := by rw [ex_83]; exact (nI_T _ (by omega))
                  refine lv_istore (lv' := [(12, .int x_82), (0, .ref (G.2.1 35)), (1, .int ra), (2, .int x2), (5, .long x5), (7, .long x7), (9, .long x9), (11, .int (nI n2))]) hC.x hC.b dX10_closes_233 hl (by decide) rfl (fun ls hl => ?_)
                  have L_269 : ∀ (s2b : SI), (KM s2b) → (MRel (fun k => (41 ≤ k ∧ k ≤ 46 ∧ k ≠ 42 ∧ k ≠ 43) ∨ (52 ≤ k ∧ k ≤ 69) ∨ k = 71) (fun j => j = 37 ∨ j = 41 ∨ j = 43 ∨ j = 44) σ s2b) → ∀ (H : Heap) (locs : List Loc) (ls : Array Slot), RepH G s2b t2 H → va_S A s.heap H locs → lv_has ls 17 [(0, .ref (G.2.1 35)), (1, .int ra), (2, .int x2), (5, .long x5), (7, .long x7), (9, .long x9), (11, .int (nI n2)), (12, .int x_82)] → W p l e (rmD 6) s m args below meth c H locs 0 0 (MQ below (va_Qi (po_X10_closes σ τ ra rq) (BU G) A) args s 0 0 A) (F0 m 269 ls []) := by
                    intro s2b hi0_269 hi1_269 H locs ls hR hS hl
                    refine lv_lload hC.x hC.b dX10_closes_269 (lv_at hl 4 rfl) ?_
                    refine lv_aload_n hC.x hC.b dX10_closes_271 rfl (lv_at hl 0 rfl) ?_
                    refine rget hC hK hR (ct_model G _ _) rfl uin_X10 21 (by decide) TF_X10_74 rfl dX10_closes_272 ?_
                    refine lv_iload hC.x hC.b dX10_closes_275 (lv_at hl 7 rfl) ?_
                    refine ald hC hK hR (ct_m_ws G _ _) pr_84 (by omega) (by omega) rfl dX10_closes_277 ?_
                    refine lv_i2l hC.x hC.b dX10_closes_278 rfl ?_
                    refine lv_ladd hC.x hC.b dX10_closes_279 ?_
                    refine lv_topl (fun x_85 ex_86 => ?_)
                    refine lv_lstore (lv' := [(7, .long x_85), (0, .ref (G.2.1 35)), (1, .int ra), (2, .int x2), (5, .long x5), (9, .long x9), (11, .int (nI n2)), (12, .int x_82)]) hC.x hC.b dX10_closes_280 hl (by decide) rfl (fun ls hl => ?_)
                    refine lv_aload_n hC.x hC.b dX10_closes_282 rfl (lv_at hl 1 rfl) ?_
                    refine rget hC hK hR (ct_model G _ _) rfl uin_X10 21 (by decide) TF_X10_74 rfl dX10_closes_283 ?_
                    refine lv_iload hC.x hC.b dX10_closes_286 (lv_at hl 7 rfl) ?_
                    refine ald hC hK hR (ct_m_ws G _ _) pr_84 (by omega) (by omega) rfl dX10_closes_288 ?_
                    refine bz_le (tgt := 323) (a := (s2b 57 ((((24 * (((s2 35 29).toInt).toNat) + n2) : Nat) : Int).toNat)).toInt) (b := 0) hC.x hC.b rfl rfl dX10_closes_289 (by decide) (fun c_87 => ?_) (fun c_87 => ?_)
                    · skip
                      exact L_323 x_85 x9 s2b (by exact hi0_269) hi1_269 _ _ _ hR hS (lv_sub hl [1, 2, 3, 4, 0, 5, 6] rfl)
                    · skip
                      refine lv_lload hC.x hC.b dX10_closes_292 (lv_at hl 5 rfl) ?_
                      refine lv_aload_n hC.x hC.b dX10_closes_294 rfl (lv_at hl 1 rfl) ?_
                      refine rget hC hK hR (ct_model G _ _) rfl uin_X10 21 (by decide) TF_X10_74 rfl dX10_closes_295 ?_
                      refine lv_iload hC.x hC.b dX10_closes_298 (lv_at hl 7 rfl) ?_
                      refine ald hC hK hR (ct_m_ws G _ _) pr_84 (by omega) (by omega) rfl dX10_closes_300 ?_
                      refine lv_i2l hC.x hC.b dX10_closes_301 rfl ?_
                      refine lv_aload_n hC.x hC.b dX10_closes_302 rfl (lv_at hl 1 rfl) ?_
                      refine rget hC hK hR (ct_model G _ _) rfl uin_X10 19 (by decide) TF_X10_68 rfl dX10_closes_303 ?_
                      refine lv_iload hC.x hC.b dX10_closes_306 (lv_at hl 7 rfl) ?_
                      refine ald hC hK hR (ct_m_fs G _ _) pr_84 (by omega) (by omega) rfl dX10_closes_308 ?_
                      refine lv_i2l hC.x hC.b dX10_closes_309 rfl ?_
                      refine lv_aload_n hC.x hC.b dX10_closes_310 rfl (lv_at hl 1 rfl) ?_
                      refine rget hC hK hR (ct_model G _ _) rfl uin_X10 22 (by decide) TF_X10_77 rfl dX10_closes_311 ?_
                      refine lv_iload hC.x hC.b dX10_closes_314 (lv_at hl 7 rfl) ?_
                      refine ald hC hK hR (ct_m_ds G _ _) pr_84 (by omega) (by omega) rfl dX10_closes_316 ?_
                      refine lv_i2l hC.x hC.b dX10_closes_317 rfl ?_
                      refine lv_ladd hC.x hC.b dX10_closes_318 ?_
                      refine lv_lmul hC.x hC.b dX10_closes_319 ?_
                      refine lv_ladd hC.x hC.b dX10_closes_320 ?_
                      refine lv_topl (fun x_88 ex_89 => ?_)
                      refine lv_lstore (lv' := [(9, .long x_88), (7, .long x_85), (0, .ref (G.2.1 35)), (1, .int ra), (2, .int x2), (5, .long x5), (11, .int (nI n2)), (12, .int x_82)]) hC.x hC.b dX10_closes_321 hl (by decide) rfl (fun ls hl => ?_)
                      exact L_323 x_85 x_88 s2b (by exact hi0_269) hi1_269 _ _ _ hR hS (lv_sub hl [2, 3, 4, 5, 1, 0, 6] rfl)
                  refine lv_aload_n hC.x hC.b dX10_closes_235 rfl (lv_at hl 1 rfl) ?_
                  refine rget hC hK hR (ct_model G _ _) rfl uin_X10 21 (by decide) TF_X10_74 rfl dX10_closes_236 ?_
                  refine lv_iload hC.x hC.b dX10_closes_239 (lv_at hl 0 rfl) ?_
                  refine lv_aload_n hC.x hC.b dX10_closes_241 rfl (lv_at hl 1 rfl) ?_
                  refine rget hC hK hR (ct_model G _ _) rfl uin_X10 21 (by decide) TF_X10_74 rfl dX10_closes_242 ?_
                  refine lv_iload hC.x hC.b dX10_closes_245 (lv_at hl 0 rfl) ?_
                  refine ald hC hK hR (ct_m_ws G _ _) pr_84 (by omega) (by omega) rfl dX10_closes_247 ?_
                  refine lv_i2l hC.x hC.b dX10_closes_248 rfl ?_
                  refine lv_lload hC.x hC.b dX10_closes_249 (lv_at hl 4 rfl) ?_
                  refine bl_le (tgt := 261) (a := (s2 57 ((((24 * (((s2 35 29).toInt).toNat) + n2) : Nat) : Int).toNat)).toInt) (b := x5.toInt) hC.x hC.b (i2lI rfl) rfl dX10_closes_251 dX10_closes_252 (by decide) (fun c_90 => ?_) (fun c_90 => ?_)
                  · skip
                    refine lv_aload_n hC.x hC.b dX10_closes_261 rfl (lv_at hl 1 rfl) ?_
                    refine rget hC hK hR (ct_model G _ _) rfl uin_X10 21 (by decide) TF_X10_74 rfl dX10_closes_262 ?_
                    refine lv_iload hC.x hC.b dX10_closes_265 (lv_at hl 0 rfl) ?_
                    refine ald hC hK hR (ct_m_ws G _ _) pr_84 (by omega) (by omega) rfl dX10_closes_267 ?_
                    refine ast hC hK hG hR hS (fun _ => ct_m_ws G _ _) pr_84 (by omega) (by omega) rfl dX10_closes_268 (fun s_91 es_92 H locs hR hS => ?_)
                    exact L_269 s_91 (by exact (by rw [es_92]; exact KM.up hi0_203 (by omega))) (by rw [es_92]; exact MRel.up (hi2_203) (by omega) (by first | omega | (dsimp only; omega))) _ _ _ hR hS (lv_sub hl [1, 2, 3, 4, 5, 6, 7, 0] rfl)
                  · skip
                    refine lv_lload hC.x hC.b dX10_closes_255 (lv_at hl 4 rfl) ?_
                    refine lv_l2i hC.x hC.b dX10_closes_257 rfl ?_
                    refine lv_goto (tgt := 268) hC.x hC.b dX10_closes_258 (by decide) ?_
                    refine ast hC hK hG hR hS (fun _ => ct_m_ws G _ _) pr_84 (by omega) (by omega) rfl dX10_closes_268 (fun s_93 es_94 H locs hR hS => ?_)
                    exact L_269 s_93 (by exact (by rw [es_94]; exact KM.up hi0_203 (by omega))) (by rw [es_94]; exact MRel.up (hi2_203) (by omega) (by first | omega | (dsimp only; omega))) _ _ _ hR hS (lv_sub hl [1, 2, 3, 4, 5, 6, 7, 0] rfl)
                · skip
                  refine lv_goto (tgt := 323) hC.x hC.b dX10_closes_220 (by decide) ?_
                  exact L_323 x7 x9 s2 (by exact hi0_203) hi2_203 _ _ _ hR hS (lv_sub hl [0, 1, 2, 3, 4, 5, 6] rfl)
          exact L_203 _ (0 : Int64) (0 : Int64) 0 s1 t1 (Nat.lt_succ_self _) (by exact hi0_7) (by first | omega | assumption) hi2_7 _ _ _ hR hS (lv_sub hl [3, 4, 5, 6, 2, 1, 0] rfl)
        refine lv_lload_n hC.x hC.b dX10_closes_166 rfl (lv_at hl 3 rfl) ?_
        refine lv_aload_n hC.x hC.b dX10_closes_167 rfl (lv_at hl 0 rfl) ?_
        refine rget hC hK hR (ct_model G _ _) rfl uin_X10 30 (by decide) TF_X10_98 rfl dX10_closes_168 ?_
        have rd_95 : (s1 35 30).toInt = (σ 35 30).toInt := congrArg Int32.toInt (show s1 35 30 = σ 35 30 from hi2_7.2 30 (by first | omega | (dsimp only; omega)))
        refine lv_i2l hC.x hC.b dX10_closes_171 rfl ?_
        refine lv_lmul hC.x hC.b dX10_closes_172 ?_
        refine lv_ldc2 hC.x hC.b hC.ow (hC.ts _ TK_X10_238) dX10_closes_173 ?_
        refine lv_ldiv hC.x hC.b dX10_closes_176 (by decide) ?_
        refine lv_topl (fun x_96 ex_97 => ?_)
        refine lv_lstore (lv' := [(5, .long x_96), (0, .ref (G.2.1 35)), (1, .int ra), (2, .int x2), (3, .long x3)]) hC.x hC.b dX10_closes_177 hl (by decide) rfl (fun ls hl => ?_)
        refine lv_lload hC.x hC.b dX10_closes_179 (lv_at hl 0 rfl) ?_
        refine lv_lconst (v := 1) hC.x hC.b dX10_closes_181 (by decide) ?_
        refine bl_ge (tgt := 190) (a := x_96.toInt) (b := 1) hC.x hC.b rfl rfl dX10_closes_182 dX10_closes_183 (by decide) (fun c_98 => ?_) (fun c_98 => ?_)
        · skip
          refine lv_lload hC.x hC.b dX10_closes_190 (lv_at hl 0 rfl) ?_
          refine lv_lstore (lv' := [(5, .long x_96), (0, .ref (G.2.1 35)), (1, .int ra), (2, .int x2), (3, .long x3)]) hC.x hC.b dX10_closes_192 hl (by decide) rfl (fun ls hl => ?_)
          exact L_194 x_96  _ _ _ hR hS (lv_sub hl [1, 2, 3, 0] rfl)
        · skip
          refine lv_lconst (v := 1) hC.x hC.b dX10_closes_186 (by decide) ?_
          refine lv_goto (tgt := 192) hC.x hC.b dX10_closes_187 (by decide) ?_
          refine lv_lstore (lv' := [(5, .long (1 : Int64)), (0, .ref (G.2.1 35)), (1, .int ra), (2, .int x2), (3, .long x3)]) hC.x hC.b dX10_closes_192 hl (by decide) rfl (fun ls hl => ?_)
          exact L_194 (1 : Int64)  _ _ _ hR hS (lv_sub hl [1, 2, 3, 0] rfl)
      · skip
        refine lv_aload_n hC.x hC.b dX10_closes_14 rfl (lv_at hl 0 rfl) ?_
        refine rget hC hK hR (ct_model G _ _) rfl uin_X10 48 (by decide) TF_X10_126 rfl dX10_closes_15 ?_
        refine lv_iload hC.x hC.b dX10_closes_18 (lv_at hl 4 rfl) ?_
        refine lv_aload_n hC.x hC.b dX10_closes_20 rfl (lv_at hl 0 rfl) ?_
        refine lv_iload hC.x hC.b dX10_closes_21 (lv_at hl 4 rfl) ?_
        have av_99 : (nI n).toInt = (n : Int) := (nI_T n (by omega))
        refine goip (runV (As := [.int (nI n)]) (rest := [.int (nI n), .ref (G.2.1 71)]) hC hK hR hl.1 (c_X10_isTaken l hG s1 t1 (nI n) n (by first | rfl | (rw [show (nI n).toInt = (n : Int) from (nI_T n (by omega))]; done) | (rw [show (nI n).toInt = (n : Int) from (nI_T n (by omega))]; exact (Int.toNat_natCast _))) ) (call_b hC.ts TC_X10_isTaken TN_X10 TM_X10_219 hd_X10_isTaken ⟨Nat.le_of_ble_eq_true rfl, Nat.le_of_ble_eq_true rfl⟩) TI_X10_isTaken TS_X10_isTaken (ct_model G _ _) rfl rfl rfl (Nat.le_of_ble_eq_true rfl) dX10_closes_23 ⟨Nat.le_of_ble_eq_true rfl, Nat.le_of_ble_eq_true rfl⟩) hS (fun v_100 H locs w_101 hR hS => ?_)
        rcases w_101 with ⟨rfl, f_102, f_103, f_104, f_105⟩ | ⟨rfl, f_106⟩
        · skip
          have rd_107 : (s1 36 n).toInt = (σ 36 n).toInt := congrArg Int32.toInt (show s1 36 n = σ 36 n from congrFun (hi2_7.1 36 (by omega) (by first | omega | (dsimp only; omega) | (intro h; exact h))) n)
          refine bz_eq (tgt := 47) (a := 1) (b := 0) hC.x hC.b rfl rfl dX10_closes_26 (by decide) (fun c_108 => absurd c_108 (by decide)) (fun _ => ?_)
          refine lv_aload_n hC.x hC.b dX10_closes_29 rfl (lv_at hl 0 rfl) ?_
          refine lv_iload hC.x hC.b dX10_closes_30 (lv_at hl 4 rfl) ?_
          refine lv_iload_n hC.x hC.b dX10_closes_32 rfl (lv_at hl 1 rfl) ?_
          refine lv_aload_n hC.x hC.b dX10_closes_33 rfl (lv_at hl 0 rfl) ?_
          refine rget hC hK hR (ct_model G _ _) rfl uin_X10 29 (by decide) TF_X10_137 rfl dX10_closes_34 ?_
          have rd_109 : (s1 35 29).toInt = (σ 35 29).toInt := congrArg Int32.toInt (show s1 35 29 = σ 35 29 from hi2_7.2 29 (by first | omega | (dsimp only; omega)))
          have av_110 : (nI n).toInt = (n : Int) := (nI_T n (by omega))
          refine goi (runV (As := [.int (nI n), .int ra, .int (s1 35 29)]) (rest := [.int (nI n), .ref (G.2.1 71)]) hC hK hR hl.1 (c_X10_goes l hG s1 t1 (nI n) n (by first | rfl | (rw [show (nI n).toInt = (n : Int) from (nI_T n (by omega))]; done) | (rw [show (nI n).toInt = (n : Int) from (nI_T n (by omega))]; exact (Int.toNat_natCast _))) ra rq (by first | rfl | (rw [show ra.toInt = ra.toInt from rfl]; done) | (rw [show ra.toInt = ra.toInt from rfl]; exact hp_rq)) (s1 35 29) (((s1 35 29).toInt).toNat) (by first | rfl | (rw [show (s1 35 29).toInt = (s1 35 29).toInt from rfl]; done) | (rw [show (s1 35 29).toInt = (s1 35 29).toInt from rfl]; exact rfl)) (by first | assumption | omega) (by omega) (by omega) (by exact LnM.fr (S := (fun k => (41 ≤ k ∧ k ≤ 46 ∧ k ≠ 42 ∧ k ≠ 43) ∨ (52 ≤ k ∧ k ≤ 69) ∨ k = 71)) (J := (fun j => j = 37 ∨ j = 41 ∨ j = 43 ∨ j = 44)) (σ1 := s1) hln hi2_7 (by first | omega | (dsimp only; omega)) (by first | omega | (dsimp only; omega)) (by first | omega | (dsimp only; omega)))) (call_b hC.ts TC_X10_goes TN_X10 TM_X10_164 hd_X10_goes ⟨Nat.le_of_ble_eq_true rfl, Nat.le_of_ble_eq_true rfl⟩) TI_X10_goes TS_X10_goes (ct_model G _ _) rfl rfl rfl (Nat.le_of_ble_eq_true rfl) dX10_closes_37 ⟨Nat.le_of_ble_eq_true rfl, Nat.le_of_ble_eq_true rfl⟩) hS (fun v_111 s_113 t_114 H locs w_112 hR hS => ?_)
          try dsimp only [po_X10_goes] at w_112
          rcases w_112 with ⟨rfl, f_115, f_116⟩ | ⟨rfl, f_117, f_118⟩
          · skip
            refine bz_eq (tgt := 47) (a := 1) (b := 0) hC.x hC.b rfl rfl dX10_closes_40 (by decide) (fun c_119 => absurd c_119 (by decide)) (fun _ => ?_)
            refine lv_iconst (v := 1) hC.x hC.b dX10_closes_43 (by decide) ?_
            refine lv_goto (tgt := 48) hC.x hC.b dX10_closes_44 (by decide) ?_
            refine zast hC hK hG hR hS (fun _ => ct_m_present G _ _) (nI_T n (by omega)) (by omega) (by omega) (Int.toNat_natCast _) (Or.inr rfl) dX10_closes_48 (fun s_120 es_121 H locs hR hS => ?_)
            refine lv_aload_n hC.x hC.b dX10_closes_49 rfl (lv_at hl 0 rfl) ?_
            refine rget hC hK hR (ct_model G _ _) rfl uin_X10 48 (by decide) TF_X10_126 rfl dX10_closes_50 ?_
            refine lv_iload hC.x hC.b dX10_closes_53 (lv_at hl 4 rfl) ?_
            refine zald hC hK hR (ct_m_present G _ _) (nI_T n (by omega)) (by omega) (by omega) (Int.toNat_natCast _) dX10_closes_55 ?_
            have rd_122 : (s_120 71 n).toInt = 1 := (congrArg Int32.toInt (show s_120 71 n = (1 : Int32) from (by rw [es_121]; exact up2_s))).trans (by decide)
            refine bz_ne (tgt := 62) (a := (s_120 71 n).toInt) (b := 0) hC.x hC.b rfl rfl dX10_closes_56 (by decide) (fun c_123 => ?_) (fun c_123 => ?_)
            · skip
              obtain ⟨x_124, ex_125⟩ : ∃ y : Int32, y = x2 + 1 := ⟨_, rfl⟩
              refine lv_iinc (v := x_124) (lv' := [(2, .int x_124), (0, .ref (G.2.1 35)), (1, .int ra), (3, .long x3), (5, .int (nI n))]) hC.x hC.b dX10_closes_62 hl (k := 2) rfl ex_125.symm (by decide) rfl (fun ls hl => ?_)
              refine lv_aload_n hC.x hC.b dX10_closes_65 rfl (lv_at hl 1 rfl) ?_
              refine rget hC hK hR (ct_model G _ _) rfl uin_X10 22 (by decide) TF_X10_77 rfl dX10_closes_66 ?_
              refine lv_aload_n hC.x hC.b dX10_closes_69 rfl (lv_at hl 1 rfl) ?_
              refine lv_aload_n hC.x hC.b dX10_closes_70 rfl (lv_at hl 1 rfl) ?_
              refine rget hC hK hR (ct_model G _ _) rfl uin_X10 29 (by decide) TF_X10_137 rfl dX10_closes_71 ?_
              have rd_126 : (s_120 35 29).toInt = (σ 35 29).toInt := congrArg Int32.toInt (Eq.trans (show s_120 35 29 = s_113 35 29 from (by rw [es_121]; exact up2_o (by omega))) (Eq.trans (show s_113 35 29 = s1 35 29 from f_115.2 29 (by first | omega | (dsimp only; omega))) (show s1 35 29 = σ 35 29 from hi2_7.2 29 (by first | omega | (dsimp only; omega)))))
              refine lv_iload hC.x hC.b dX10_closes_74 (lv_at hl 4 rfl) ?_
              have av_127 : (nI n).toInt = (n : Int) := (nI_T n (by omega))
              refine goip (runV (As := [.int (s_120 35 29), .int (nI n)]) (rest := [.ref (G.2.1 58)]) hC hK hR hl.1 (c_X10_at l hG s_120 t_114 (s_120 35 29) (((s_120 35 29).toInt).toNat) (by first | rfl | (rw [show (s_120 35 29).toInt = (s_120 35 29).toInt from rfl]; done) | (rw [show (s_120 35 29).toInt = (s_120 35 29).toInt from rfl]; exact rfl)) (nI n) n (by first | rfl | (rw [show (nI n).toInt = (n : Int) from (nI_T n (by omega))]; done) | (rw [show (nI n).toInt = (n : Int) from (nI_T n (by omega))]; exact (Int.toNat_natCast _))) (by omega) (by omega)) (call_b hC.ts TC_X10_at TN_X10 TM_X10_140 hd_X10_at ⟨Nat.le_of_ble_eq_true rfl, Nat.le_of_ble_eq_true rfl⟩) TI_X10_at TS_X10_at (ct_model G _ _) rfl rfl rfl (Nat.le_of_ble_eq_true rfl) dX10_closes_76 ⟨Nat.le_of_ble_eq_true rfl, Nat.le_of_ble_eq_true rfl⟩) hS (fun v_128 H locs w_129 hR hS => ?_)
              subst w_129
              refine lv_aload_n hC.x hC.b dX10_closes_79 rfl (lv_at hl 1 rfl) ?_
              refine rget hC hK hR (ct_model G _ _) rfl uin_X10 43 (by decide) TF_X10_158 rfl dX10_closes_80 ?_
              have rd_130 : (s_120 35 43).toInt = (s_113 35 43).toInt := congrArg Int32.toInt (show s_120 35 43 = s_113 35 43 from (by rw [es_121]; exact up2_o (by omega)))
              refine lv_aload_n hC.x hC.b dX10_closes_83 rfl (lv_at hl 1 rfl) ?_
              refine rget hC hK hR (ct_model G _ _) rfl uin_X10 6 (by decide) TF_X10_29 rfl dX10_closes_84 ?_
              refine lv_iload hC.x hC.b dX10_closes_87 (lv_at hl 4 rfl) ?_
              refine ald hC hK hR (ct_m_setting G _ _) (nI_T n (by omega)) (by omega) (by omega) (Int.toNat_natCast _) dX10_closes_89 ?_
              have rd_131 : (s_120 42 n).toInt = (σ 42 n).toInt := congrArg Int32.toInt (Eq.trans (show s_120 42 n = s_113 42 n from (by rw [es_121]; exact up2_o (by omega))) (Eq.trans (show s_113 42 n = s1 42 n from congrFun (f_115.1 42 (by omega) (by first | omega | (dsimp only; omega) | (intro h; exact h))) n) (show s1 42 n = σ 42 n from congrFun (hi2_7.1 42 (by omega) (by first | omega | (dsimp only; omega) | (intro h; exact h))) n)))
              refine lv_isub hC.x hC.b dX10_closes_90 ?_
              refine lv_aload_n hC.x hC.b dX10_closes_91 rfl (lv_at hl 1 rfl) ?_
              refine rget hC hK hR (ct_model G _ _) rfl uin_X10 6 (by decide) TF_X10_29 rfl dX10_closes_92 ?_
              refine lv_iload_n hC.x hC.b dX10_closes_95 rfl (lv_at hl 2 rfl) ?_
              refine ald hC hK hR (ct_m_setting G _ _) rfl (by omega) (by omega) hp_rq dX10_closes_96 ?_
              have rd_132 : (s_120 42 rq).toInt = (σ 42 rq).toInt := congrArg Int32.toInt (Eq.trans (show s_120 42 rq = s_113 42 rq from (by rw [es_121]; exact up2_o (by omega))) (Eq.trans (show s_113 42 rq = s1 42 rq from congrFun (f_115.1 42 (by omega) (by first | omega | (dsimp only; omega) | (intro h; exact h))) rq) (show s1 42 rq = σ 42 rq from congrFun (hi2_7.1 42 (by omega) (by first | omega | (dsimp only; omega) | (intro h; exact h))) rq)))
              refine lv_iadd hC.x hC.b dX10_closes_97 ?_
              refine ast hC hK hG hR hS (fun _ => ct_m_ds G _ _) (nI_T _ (by omega)) (by omega) (by omega) (Int.toNat_natCast _) dX10_closes_98 (fun s_133 es_134 H locs hR hS => ?_)
              refine lv_aload_n hC.x hC.b dX10_closes_99 rfl (lv_at hl 1 rfl) ?_
              refine rget hC hK hR (ct_model G _ _) rfl uin_X10 19 (by decide) TF_X10_68 rfl dX10_closes_100 ?_
              refine lv_aload_n hC.x hC.b dX10_closes_103 rfl (lv_at hl 1 rfl) ?_
              refine lv_aload_n hC.x hC.b dX10_closes_104 rfl (lv_at hl 1 rfl) ?_
              refine rget hC hK hR (ct_model G _ _) rfl uin_X10 29 (by decide) TF_X10_137 rfl dX10_closes_105 ?_
              have rd_135 : (s_133 35 29).toInt = (σ 35 29).toInt := congrArg Int32.toInt (Eq.trans (show s_133 35 29 = s_120 35 29 from (by rw [es_134]; exact up2_o (by omega))) (Eq.trans (show s_120 35 29 = s_113 35 29 from (by rw [es_121]; exact up2_o (by omega))) (Eq.trans (show s_113 35 29 = s1 35 29 from f_115.2 29 (by first | omega | (dsimp only; omega))) (show s1 35 29 = σ 35 29 from hi2_7.2 29 (by first | omega | (dsimp only; omega))))))
              refine lv_iload hC.x hC.b dX10_closes_108 (lv_at hl 4 rfl) ?_
              have av_136 : (nI n).toInt = (n : Int) := (nI_T n (by omega))
              refine goip (runV (As := [.int (s_133 35 29), .int (nI n)]) (rest := [.ref (G.2.1 55)]) hC hK hR hl.1 (c_X10_at l hG s_133 t_114 (s_133 35 29) (((s_133 35 29).toInt).toNat) (by first | rfl | (rw [show (s_133 35 29).toInt = (s_133 35 29).toInt from rfl]; done) | (rw [show (s_133 35 29).toInt = (s_133 35 29).toInt from rfl]; exact rfl)) (nI n) n (by first | rfl | (rw [show (nI n).toInt = (n : Int) from (nI_T n (by omega))]; done) | (rw [show (nI n).toInt = (n : Int) from (nI_T n (by omega))]; exact (Int.toNat_natCast _))) (by omega) (by omega)) (call_b hC.ts TC_X10_at TN_X10 TM_X10_140 hd_X10_at ⟨Nat.le_of_ble_eq_true rfl, Nat.le_of_ble_eq_true rfl⟩) TI_X10_at TS_X10_at (ct_model G _ _) rfl rfl rfl (Nat.le_of_ble_eq_true rfl) dX10_closes_110 ⟨Nat.le_of_ble_eq_true rfl, Nat.le_of_ble_eq_true rfl⟩) hS (fun v_137 H locs w_138 hR hS => ?_)
              subst w_138
              refine lv_aload_n hC.x hC.b dX10_closes_113 rfl (lv_at hl 1 rfl) ?_
              refine lv_iload hC.x hC.b dX10_closes_114 (lv_at hl 4 rfl) ?_
              have rd_139 : (s_133 36 n).toInt = (σ 36 n).toInt := congrArg Int32.toInt (Eq.trans (show s_133 36 n = s_120 36 n from (by rw [es_134]; exact up2_o (by omega))) (Eq.trans (show s_120 36 n = s_113 36 n from (by rw [es_121]; exact up2_o (by omega))) (Eq.trans (show s_113 36 n = s1 36 n from congrFun (f_115.1 36 (by omega) (by first | omega | (dsimp only; omega) | (intro h; exact h))) n) (show s1 36 n = σ 36 n from congrFun (hi2_7.1 36 (by omega) (by first | omega | (dsimp only; omega) | (intro h; exact h))) n))))
              have hcq := (show ClM s_133 from ClM.fr (S := (fun k => (41 ≤ k ∧ k ≤ 46 ∧ k ≠ 42 ∧ k ≠ 43) ∨ (52 ≤ k ∧ k ≤ 69) ∨ k = 71)) (J := (fun j => j = 37 ∨ j = 41 ∨ j = 43 ∨ j = 44)) (σ1 := s_133) hcl (by rw [es_134]; exact MRel.up ((by rw [es_121]; exact MRel.up ((MRel.tr hi2_7 (MRel.mgc f_115))) (by omega) (by first | omega | (dsimp only; omega)))) (by omega) (by first | omega | (dsimp only; omega))) (by first | omega | (dsimp only; omega)) (by first | omega | (dsimp only; omega))) n (by omega) ⟨by omega, by omega⟩
              have av_140 : (nI n).toInt = (n : Int) := (nI_T n (by omega))
              have rd_141 : (s_133 35 29).toInt = (σ 35 29).toInt := congrArg Int32.toInt (Eq.trans (show s_133 35 29 = s_120 35 29 from (by rw [es_134]; exact up2_o (by omega))) (Eq.trans (show s_120 35 29 = s_113 35 29 from (by rw [es_121]; exact up2_o (by omega))) (Eq.trans (show s_113 35 29 = s1 35 29 from f_115.2 29 (by first | omega | (dsimp only; omega))) (show s1 35 29 = σ 35 29 from hi2_7.2 29 (by first | omega | (dsimp only; omega))))))
              have rd_142 : (s_133 37 n).toInt = (σ 37 n).toInt := congrArg Int32.toInt (Eq.trans (show s_133 37 n = s_120 37 n from (by rw [es_134]; exact up2_o (by omega))) (Eq.trans (show s_120 37 n = s_113 37 n from (by rw [es_121]; exact up2_o (by omega))) (Eq.trans (show s_113 37 n = s1 37 n from congrFun (f_115.1 37 (by omega) (by first | omega | (dsimp only; omega) | (intro h; exact h))) n) (show s1 37 n = σ 37 n from congrFun (hi2_7.1 37 (by omega) (by first | omega | (dsimp only; omega) | (intro h; exact h))) n))))
              refine goi (runV (As := [.int (nI n)]) (rest := [.int (nI (24 * (((s_133 35 29).toInt).toNat) + n)), .ref (G.2.1 55)]) hC hK hR hl.1 (c_X10_foretold l hG s_133 t_114 (nI n) n (by first | rfl | (rw [show (nI n).toInt = (n : Int) from (nI_T n (by omega))]; done) | (rw [show (nI n).toInt = (n : Int) from (nI_T n (by omega))]; exact (Int.toNat_natCast _))) (by first | assumption | omega) (by omega) (by first | assumption | omega)) (call_b hC.ts TC_X10_foretold TN_X10 TM_X10_210 hd_X10_foretold ⟨Nat.le_of_ble_eq_true rfl, Nat.le_of_ble_eq_true rfl⟩) TI_X10_foretold TS_X10_foretold (ct_model G _ _) rfl rfl rfl (Nat.le_of_ble_eq_true rfl) dX10_closes_116 ⟨Nat.le_of_ble_eq_true rfl, Nat.le_of_ble_eq_true rfl⟩) hS (fun v_143 s_145 t_146 H locs w_144 hR hS => ?_)
              try dsimp only [po_X10_foretold] at w_144
              have f_147 := w_144
              refine ast hC hK hG hR hS (fun _ => ct_m_fs G _ _) (nI_T _ (by omega)) (by omega) (by omega) (Int.toNat_natCast _) dX10_closes_119 (fun s_148 es_149 H locs hR hS => ?_)
              refine lv_aload_n hC.x hC.b dX10_closes_120 rfl (lv_at hl 1 rfl) ?_
              refine rget hC hK hR (ct_model G _ _) rfl uin_X10 21 (by decide) TF_X10_74 rfl dX10_closes_121 ?_
              refine lv_aload_n hC.x hC.b dX10_closes_124 rfl (lv_at hl 1 rfl) ?_
              refine lv_aload_n hC.x hC.b dX10_closes_125 rfl (lv_at hl 1 rfl) ?_
              refine rget hC hK hR (ct_model G _ _) rfl uin_X10 29 (by decide) TF_X10_137 rfl dX10_closes_126 ?_
              have rd_150 : (s_148 35 29).toInt = (σ 35 29).toInt := congrArg Int32.toInt (Eq.trans (show s_148 35 29 = s_145 35 29 from (by rw [es_149]; exact up2_o (by omega))) (Eq.trans (show s_145 35 29 = s_133 35 29 from f_147.2 29 (by first | omega | (dsimp only; omega))) (Eq.trans (show s_133 35 29 = s_120 35 29 from (by rw [es_134]; exact up2_o (by omega))) (Eq.trans (show s_120 35 29 = s_113 35 29 from (by rw [es_121]; exact up2_o (by omega))) (Eq.trans (show s_113 35 29 = s1 35 29 from f_115.2 29 (by first | omega | (dsimp only; omega))) (show s1 35 29 = σ 35 29 from hi2_7.2 29 (by first | omega | (dsimp only; omega))))))))
              refine lv_iload hC.x hC.b dX10_closes_129 (lv_at hl 4 rfl) ?_
              have av_151 : (nI n).toInt = (n : Int) := (nI_T n (by omega))
              refine goip (runV (As := [.int (s_148 35 29), .int (nI n)]) (rest := [.ref (G.2.1 57)]) hC hK hR hl.1 (c_X10_at l hG s_148 t_146 (s_148 35 29) (((s_148 35 29).toInt).toNat) (by first | rfl | (rw [show (s_148 35 29).toInt = (s_148 35 29).toInt from rfl]; done) | (rw [show (s_148 35 29).toInt = (s_148 35 29).toInt from rfl]; exact rfl)) (nI n) n (by first | rfl | (rw [show (nI n).toInt = (n : Int) from (nI_T n (by omega))]; done) | (rw [show (nI n).toInt = (n : Int) from (nI_T n (by omega))]; exact (Int.toNat_natCast _))) (by omega) (by omega)) (call_b hC.ts TC_X10_at TN_X10 TM_X10_140 hd_X10_at ⟨Nat.le_of_ble_eq_true rfl, Nat.le_of_ble_eq_true rfl⟩) TI_X10_at TS_X10_at (ct_model G _ _) rfl rfl rfl (Nat.le_of_ble_eq_true rfl) dX10_closes_131 ⟨Nat.le_of_ble_eq_true rfl, Nat.le_of_ble_eq_true rfl⟩) hS (fun v_152 H locs w_153 hR hS => ?_)
              subst w_153
              refine lv_aload_n hC.x hC.b dX10_closes_134 rfl (lv_at hl 1 rfl) ?_
              refine lv_iload hC.x hC.b dX10_closes_135 (lv_at hl 4 rfl) ?_
              have rd_154 : (s_148 36 n).toInt = (σ 36 n).toInt := congrArg Int32.toInt (Eq.trans (show s_148 36 n = s_145 36 n from (by rw [es_149]; exact up2_o (by omega))) (Eq.trans (show s_145 36 n = s_133 36 n from congrFun (f_147.1 36 (by omega) (by first | omega | (dsimp only; omega) | (intro h; exact h))) n) (Eq.trans (show s_133 36 n = s_120 36 n from (by rw [es_134]; exact up2_o (by omega))) (Eq.trans (show s_120 36 n = s_113 36 n from (by rw [es_121]; exact up2_o (by omega))) (Eq.trans (show s_113 36 n = s1 36 n from congrFun (f_115.1 36 (by omega) (by first | omega | (dsimp only; omega) | (intro h; exact h))) n) (show s1 36 n = σ 36 n from congrFun (hi2_7.1 36 (by omega) (by first | omega | (dsimp only; omega) | (intro h; exact h))) n))))))
              have hcq := (show ClM s_148 from ClM.fr (S := (fun k => (41 ≤ k ∧ k ≤ 46 ∧ k ≠ 42 ∧ k ≠ 43) ∨ (52 ≤ k ∧ k ≤ 69) ∨ k = 71)) (J := (fun j => j = 37 ∨ j = 41 ∨ j = 43 ∨ j = 44)) (σ1 := s_148) hcl (by rw [es_149]; exact MRel.up ((MRel.tr (by rw [es_134]; exact MRel.up ((by rw [es_121]; exact MRel.up ((MRel.tr hi2_7 (MRel.mgc f_115))) (by omega) (by first | omega | (dsimp only; omega)))) (by omega) (by first | omega | (dsimp only; omega))) (MRel.mfc f_147))) (by omega) (by first | omega | (dsimp only; omega))) (by first | omega | (dsimp only; omega)) (by first | omega | (dsimp only; omega))) n (by omega) ⟨by omega, by omega⟩
              have av_155 : (nI n).toInt = (n : Int) := (nI_T n (by omega))
              have rd_156 : (s_148 35 29).toInt = (σ 35 29).toInt := congrArg Int32.toInt (Eq.trans (show s_148 35 29 = s_145 35 29 from (by rw [es_149]; exact up2_o (by omega))) (Eq.trans (show s_145 35 29 = s_133 35 29 from f_147.2 29 (by first | omega | (dsimp only; omega))) (Eq.trans (show s_133 35 29 = s_120 35 29 from (by rw [es_134]; exact up2_o (by omega))) (Eq.trans (show s_120 35 29 = s_113 35 29 from (by rw [es_121]; exact up2_o (by omega))) (Eq.trans (show s_113 35 29 = s1 35 29 from f_115.2 29 (by first | omega | (dsimp only; omega))) (show s1 35 29 = σ 35 29 from hi2_7.2 29 (by first | omega | (dsimp only; omega))))))))
              have rd_157 : (s_148 37 n).toInt = (σ 37 n).toInt := congrArg Int32.toInt (Eq.trans (show s_148 37 n = s_145 37 n from (by rw [es_149]; exact up2_o (by omega))) (Eq.trans (show s_145 37 n = s_133 37 n from congrFun (f_147.1 37 (by omega) (by first | omega | (dsimp only; omega) | (intro h; exact h))) n) (Eq.trans (show s_133 37 n = s_120 37 n from (by rw [es_134]; exact up2_o (by omega))) (Eq.trans (show s_120 37 n = s_113 37 n from (by rw [es_121]; exact up2_o (by omega))) (Eq.trans (show s_113 37 n = s1 37 n from congrFun (f_115.1 37 (by omega) (by first | omega | (dsimp only; omega) | (intro h; exact h))) n) (show s1 37 n = σ 37 n from congrFun (hi2_7.1 37 (by omega) (by first | omega | (dsimp only; omega) | (intro h; exact h))) n))))))
              refine goi (runV (As := [.int (nI n)]) (rest := [.int (nI (24 * (((s_148 35 29).toInt).toNat) + n)), .ref (G.2.1 57)]) hC hK hR hl.1 (c_X10_full l hG s_148 t_146 (nI n) n (by first | rfl | (rw [show (nI n).toInt = (n : Int) from (nI_T n (by omega))]; done) | (rw [show (nI n).toInt = (n : Int) from (nI_T n (by omega))]; exact (Int.toNat_natCast _))) (by first | assumption | omega) (by omega) (by first | assumption | omega) (by exact (by rw [es_149]; exact KM.up (KM.fr (by rw [es_134]; exact KM.up (by rw [es_121]; exact KM.u71 (KM.fr hi0_7 f_115 (by first | omega | (dsimp only; omega) | exact fun q => q) (by first | omega | (dsimp only; omega) | exact fun q => q) (by first | omega | (dsimp only; omega) | exact fun q => q) (by first | omega | (dsimp only; omega))) (by decide)) (by omega)) f_147 (by first | omega | (dsimp only; omega) | exact fun q => q) (by first | omega | (dsimp only; omega) | exact fun q => q) (by first | omega | (dsimp only; omega) | exact fun q => q) (by first | omega | (dsimp only; omega))) (by omega)))) (call_b hC.ts TC_X10_full TN_X10 TM_X10_225 hd_X10_full ⟨Nat.le_of_ble_eq_true rfl, Nat.le_of_ble_eq_true rfl⟩) TI_X10_full TS_X10_full (ct_model G _ _) rfl rfl rfl (Nat.le_of_ble_eq_true rfl) dX10_closes_137 ⟨Nat.le_of_ble_eq_true rfl, Nat.le_of_ble_eq_true rfl⟩) hS (fun v_158 s_160 t_161 H locs w_159 hR hS => ?_)
              try dsimp only [po_X10_full] at w_159
              have f_162 := w_159
              refine ast hC hK hG hR hS (fun _ => ct_m_ws G _ _) (nI_T _ (by omega)) (by omega) (by omega) (Int.toNat_natCast _) dX10_closes_140 (fun s_163 es_164 H locs hR hS => ?_)
              refine lv_lload_n hC.x hC.b dX10_closes_141 rfl (lv_at hl 3 rfl) ?_
              refine lv_aload_n hC.x hC.b dX10_closes_142 rfl (lv_at hl 1 rfl) ?_
              refine rget hC hK hR (ct_model G _ _) rfl uin_X10 21 (by decide) TF_X10_74 rfl dX10_closes_143 ?_
              refine lv_aload_n hC.x hC.b dX10_closes_146 rfl (lv_at hl 1 rfl) ?_
              refine lv_aload_n hC.x hC.b dX10_closes_147 rfl (lv_at hl 1 rfl) ?_
              refine rget hC hK hR (ct_model G _ _) rfl uin_X10 29 (by decide) TF_X10_137 rfl dX10_closes_148 ?_
              have rd_165 : (s_163 35 29).toInt = (σ 35 29).toInt := congrArg Int32.toInt (Eq.trans (show s_163 35 29 = s_160 35 29 from (by rw [es_164]; exact up2_o (by omega))) (Eq.trans (show s_160 35 29 = s_148 35 29 from f_162.2 29 (by first | omega | (dsimp only; omega))) (Eq.trans (show s_148 35 29 = s_145 35 29 from (by rw [es_149]; exact up2_o (by omega))) (Eq.trans (show s_145 35 29 = s_133 35 29 from f_147.2 29 (by first | omega | (dsimp only; omega))) (Eq.trans (show s_133 35 29 = s_120 35 29 from (by rw [es_134]; exact up2_o (by omega))) (Eq.trans (show s_120 35 29 = s_113 35 29 from (by rw [es_121]; exact up2_o (by omega))) (Eq.trans (show s_113 35 29 = s1 35 29 from f_115.2 29 (by first | omega | (dsimp only; omega))) (show s1 35 29 = σ 35 29 from hi2_7.2 29 (by first | omega | (dsimp only; omega))))))))))
              refine lv_iload hC.x hC.b dX10_closes_151 (lv_at hl 4 rfl) ?_
              have av_166 : (nI n).toInt = (n : Int) := (nI_T n (by omega))
              refine goip (runV (As := [.int (s_163 35 29), .int (nI n)]) (rest := [.ref (G.2.1 57), .long x3]) hC hK hR hl.1 (c_X10_at l hG s_163 t_161 (s_163 35 29) (((s_163 35 29).toInt).toNat) (by first | rfl | (rw [show (s_163 35 29).toInt = (s_163 35 29).toInt from rfl]; done) | (rw [show (s_163 35 29).toInt = (s_163 35 29).toInt from rfl]; exact rfl)) (nI n) n (by first | rfl | (rw [show (nI n).toInt = (n : Int) from (nI_T n (by omega))]; done) | (rw [show (nI n).toInt = (n : Int) from (nI_T n (by omega))]; exact (Int.toNat_natCast _))) (by omega) (by omega)) (call_b hC.ts TC_X10_at TN_X10 TM_X10_140 hd_X10_at ⟨Nat.le_of_ble_eq_true rfl, Nat.le_of_ble_eq_true rfl⟩) TI_X10_at TS_X10_at (ct_model G _ _) rfl rfl rfl (Nat.le_of_ble_eq_true rfl) dX10_closes_153 ⟨Nat.le_of_ble_eq_true rfl, Nat.le_of_ble_eq_true rfl⟩) hS (fun v_167 H locs w_168 hR hS => ?_)
              subst w_168
              refine ald hC hK hR (ct_m_ws G _ _) (nI_T _ (by omega)) (by omega) (by omega) (Int.toNat_natCast _) dX10_closes_156 ?_
              refine lv_i2l hC.x hC.b dX10_closes_157 rfl ?_
              refine lv_ladd hC.x hC.b dX10_closes_158 ?_
              refine lv_topl (fun x_169 ex_170 => ?_)
              refine lv_lstore_n (lv' := [(3, .long x_169), (2, .int x_124), (0, .ref (G.2.1 35)), (1, .int ra), (5, .int (nI n))]) hC.x hC.b dX10_closes_159 rfl hl (by decide) rfl (fun ls hl => ?_)
              refine lv_iinc (v := nI (n + 1)) (lv' := [(5, .int (nI (n + 1))), (3, .long x_169), (2, .int x_124), (0, .ref (G.2.1 35)), (1, .int ra)]) hC.x hC.b dX10_closes_160 hl (k := 4) rfl (nI_succ _).symm (by decide) rfl (fun ls hl => ?_)
              refine lv_goto (tgt := 7) hC.x hC.b dX10_closes_163 (by decide) ?_
              exact ih_7 x_124 x_169 (n + 1) s_163 t_161 (by omega) (by exact (by rw [es_164]; exact KM.up (KM.fr (by rw [es_149]; exact KM.up (KM.fr (by rw [es_134]; exact KM.up (by rw [es_121]; exact KM.u71 (KM.fr hi0_7 f_115 (by first | omega | (dsimp only; omega) | exact fun q => q) (by first | omega | (dsimp only; omega) | exact fun q => q) (by first | omega | (dsimp only; omega) | exact fun q => q) (by first | omega | (dsimp only; omega))) (by decide)) (by omega)) f_147 (by first | omega | (dsimp only; omega) | exact fun q => q) (by first | omega | (dsimp only; omega) | exact fun q => q) (by first | omega | (dsimp only; omega) | exact fun q => q) (by first | omega | (dsimp only; omega))) (by omega)) f_162 (by first | omega | (dsimp only; omega) | exact fun q => q) (by first | omega | (dsimp only; omega) | exact fun q => q) (by first | omega | (dsimp only; omega) | exact fun q => q) (by first | omega | (dsimp only; omega))) (by omega))) (by first | omega | assumption) (by rw [es_164]; exact MRel.up ((MRel.tr (by rw [es_149]; exact MRel.up ((MRel.tr (by rw [es_134]; exact MRel.up ((by rw [es_121]; exact MRel.up ((MRel.tr hi2_7 (MRel.mgc f_115))) (by omega) (by first | omega | (dsimp only; omega)))) (by omega) (by first | omega | (dsimp only; omega))) (MRel.mfc f_147))) (by omega) (by first | omega | (dsimp only; omega))) (MRel.mfc f_162))) (by omega) (by first | omega | (dsimp only; omega))) _ _ _ hR hS (lv_sub hl [3, 4, 2, 1, 0] rfl)
            · skip
              refine lv_goto (tgt := 160) hC.x hC.b dX10_closes_59 (by decide) ?_
              refine lv_iinc (v := nI (n + 1)) (lv' := [(5, .int (nI (n + 1))), (0, .ref (G.2.1 35)), (1, .int ra), (2, .int x2), (3, .long x3)]) hC.x hC.b dX10_closes_160 hl (k := 4) rfl (nI_succ _).symm (by decide) rfl (fun ls hl => ?_)
              refine lv_goto (tgt := 7) hC.x hC.b dX10_closes_163 (by decide) ?_
              exact ih_7 x2 x3 (n + 1) s_120 t_114 (by omega) (by exact (by rw [es_121]; exact KM.u71 (KM.fr hi0_7 f_115 (by first | omega | (dsimp only; omega) | exact fun q => q) (by first | omega | (dsimp only; omega) | exact fun q => q) (by first | omega | (dsimp only; omega) | exact fun q => q) (by first | omega | (dsimp only; omega))) (by decide))) (by first | omega | assumption) (by rw [es_121]; exact MRel.up ((MRel.tr hi2_7 (MRel.mgc f_115))) (by omega) (by first | omega | (dsimp only; omega))) _ _ _ hR hS (lv_sub hl [1, 2, 3, 4, 0] rfl)
          · skip
            refine bz_eq (tgt := 47) (a := 0) (b := 0) hC.x hC.b rfl rfl dX10_closes_40 (by decide) (fun _ => ?_) (fun c_171 => absurd c_171 (by decide))
            refine lv_iconst (v := 0) hC.x hC.b dX10_closes_47 (by decide) ?_
            refine zast hC hK hG hR hS (fun _ => ct_m_present G _ _) (nI_T n (by omega)) (by omega) (by omega) (Int.toNat_natCast _) (Or.inl rfl) dX10_closes_48 (fun s_172 es_173 H locs hR hS => ?_)
            refine lv_aload_n hC.x hC.b dX10_closes_49 rfl (lv_at hl 0 rfl) ?_
            refine rget hC hK hR (ct_model G _ _) rfl uin_X10 48 (by decide) TF_X10_126 rfl dX10_closes_50 ?_
            refine lv_iload hC.x hC.b dX10_closes_53 (lv_at hl 4 rfl) ?_
            refine zald hC hK hR (ct_m_present G _ _) (nI_T n (by omega)) (by omega) (by omega) (Int.toNat_natCast _) dX10_closes_55 ?_
            have rd_174 : (s_172 71 n).toInt = 0 := (congrArg Int32.toInt (show s_172 71 n = (0 : Int32) from (by rw [es_173]; exact up2_s))).trans (by decide)
            refine bz_ne (tgt := 62) (a := (s_172 71 n).toInt) (b := 0) hC.x hC.b rfl rfl dX10_closes_56 (by decide) (fun c_175 => ?_) (fun c_175 => ?_)
            · skip
              obtain ⟨x_176, ex_177⟩ : ∃ y : Int32, y = x2 + 1 := ⟨_, rfl⟩
              refine lv_iinc (v := x_176) (lv' := [(2, .int x_176), (0, .ref (G.2.1 35)), (1, .int ra), (3, .long x3), (5, .int (nI n))]) hC.x hC.b dX10_closes_62 hl (k := 2) rfl ex_177.symm (by decide) rfl (fun ls hl => ?_)
              refine lv_aload_n hC.x hC.b dX10_closes_65 rfl (lv_at hl 1 rfl) ?_
              refine rget hC hK hR (ct_model G _ _) rfl uin_X10 22 (by decide) TF_X10_77 rfl dX10_closes_66 ?_
              refine lv_aload_n hC.x hC.b dX10_closes_69 rfl (lv_at hl 1 rfl) ?_
              refine lv_aload_n hC.x hC.b dX10_closes_70 rfl (lv_at hl 1 rfl) ?_
              refine rget hC hK hR (ct_model G _ _) rfl uin_X10 29 (by decide) TF_X10_137 rfl dX10_closes_71 ?_
              have rd_178 : (s_172 35 29).toInt = (σ 35 29).toInt := congrArg Int32.toInt (Eq.trans (show s_172 35 29 = s_113 35 29 from (by rw [es_173]; exact up2_o (by omega))) (Eq.trans (show s_113 35 29 = s1 35 29 from f_117.2 29 (by first | omega | (dsimp only; omega))) (show s1 35 29 = σ 35 29 from hi2_7.2 29 (by first | omega | (dsimp only; omega)))))
              refine lv_iload hC.x hC.b dX10_closes_74 (lv_at hl 4 rfl) ?_
              have av_179 : (nI n).toInt = (n : Int) := (nI_T n (by omega))
              refine goip (runV (As := [.int (s_172 35 29), .int (nI n)]) (rest := [.ref (G.2.1 58)]) hC hK hR hl.1 (c_X10_at l hG s_172 t_114 (s_172 35 29) (((s_172 35 29).toInt).toNat) (by first | rfl | (rw [show (s_172 35 29).toInt = (s_172 35 29).toInt from rfl]; done) | (rw [show (s_172 35 29).toInt = (s_172 35 29).toInt from rfl]; exact rfl)) (nI n) n (by first | rfl | (rw [show (nI n).toInt = (n : Int) from (nI_T n (by omega))]; done) | (rw [show (nI n).toInt = (n : Int) from (nI_T n (by omega))]; exact (Int.toNat_natCast _))) (by omega) (by omega)) (call_b hC.ts TC_X10_at TN_X10 TM_X10_140 hd_X10_at ⟨Nat.le_of_ble_eq_true rfl, Nat.le_of_ble_eq_true rfl⟩) TI_X10_at TS_X10_at (ct_model G _ _) rfl rfl rfl (Nat.le_of_ble_eq_true rfl) dX10_closes_76 ⟨Nat.le_of_ble_eq_true rfl, Nat.le_of_ble_eq_true rfl⟩) hS (fun v_180 H locs w_181 hR hS => ?_)
              subst w_181
              refine lv_aload_n hC.x hC.b dX10_closes_79 rfl (lv_at hl 1 rfl) ?_
              refine rget hC hK hR (ct_model G _ _) rfl uin_X10 43 (by decide) TF_X10_158 rfl dX10_closes_80 ?_
              have rd_182 : (s_172 35 43).toInt = (s_113 35 43).toInt := congrArg Int32.toInt (show s_172 35 43 = s_113 35 43 from (by rw [es_173]; exact up2_o (by omega)))
              refine lv_aload_n hC.x hC.b dX10_closes_83 rfl (lv_at hl 1 rfl) ?_
              refine rget hC hK hR (ct_model G _ _) rfl uin_X10 6 (by decide) TF_X10_29 rfl dX10_closes_84 ?_
              refine lv_iload hC.x hC.b dX10_closes_87 (lv_at hl 4 rfl) ?_
              refine ald hC hK hR (ct_m_setting G _ _) (nI_T n (by omega)) (by omega) (by omega) (Int.toNat_natCast _) dX10_closes_89 ?_
              have rd_183 : (s_172 42 n).toInt = (σ 42 n).toInt := congrArg Int32.toInt (Eq.trans (show s_172 42 n = s_113 42 n from (by rw [es_173]; exact up2_o (by omega))) (Eq.trans (show s_113 42 n = s1 42 n from congrFun (f_117.1 42 (by omega) (by first | omega | (dsimp only; omega) | (intro h; exact h))) n) (show s1 42 n = σ 42 n from congrFun (hi2_7.1 42 (by omega) (by first | omega | (dsimp only; omega) | (intro h; exact h))) n)))
              refine lv_isub hC.x hC.b dX10_closes_90 ?_
              refine lv_aload_n hC.x hC.b dX10_closes_91 rfl (lv_at hl 1 rfl) ?_
              refine rget hC hK hR (ct_model G _ _) rfl uin_X10 6 (by decide) TF_X10_29 rfl dX10_closes_92 ?_
              refine lv_iload_n hC.x hC.b dX10_closes_95 rfl (lv_at hl 2 rfl) ?_
              refine ald hC hK hR (ct_m_setting G _ _) rfl (by omega) (by omega) hp_rq dX10_closes_96 ?_
              have rd_184 : (s_172 42 rq).toInt = (σ 42 rq).toInt := congrArg Int32.toInt (Eq.trans (show s_172 42 rq = s_113 42 rq from (by rw [es_173]; exact up2_o (by omega))) (Eq.trans (show s_113 42 rq = s1 42 rq from congrFun (f_117.1 42 (by omega) (by first | omega | (dsimp only; omega) | (intro h; exact h))) rq) (show s1 42 rq = σ 42 rq from congrFun (hi2_7.1 42 (by omega) (by first | omega | (dsimp only; omega) | (intro h; exact h))) rq)))
              refine lv_iadd hC.x hC.b dX10_closes_97 ?_
              refine ast hC hK hG hR hS (fun _ => ct_m_ds G _ _) (nI_T _ (by omega)) (by omega) (by omega) (Int.toNat_natCast _) dX10_closes_98 (fun s_185 es_186 H locs hR hS => ?_)
              refine lv_aload_n hC.x hC.b dX10_closes_99 rfl (lv_at hl 1 rfl) ?_
              refine rget hC hK hR (ct_model G _ _) rfl uin_X10 19 (by decide) TF_X10_68 rfl dX10_closes_100 ?_
              refine lv_aload_n hC.x hC.b dX10_closes_103 rfl (lv_at hl 1 rfl) ?_
              refine lv_aload_n hC.x hC.b dX10_closes_104 rfl (lv_at hl 1 rfl) ?_
              refine rget hC hK hR (ct_model G _ _) rfl uin_X10 29 (by decide) TF_X10_137 rfl dX10_closes_105 ?_
              have rd_187 : (s_185 35 29).toInt = (σ 35 29).toInt := congrArg Int32.toInt (Eq.trans (show s_185 35 29 = s_172 35 29 from (by rw [es_186]; exact up2_o (by omega))) (Eq.trans (show s_172 35 29 = s_113 35 29 from (by rw [es_173]; exact up2_o (by omega))) (Eq.trans (show s_113 35 29 = s1 35 29 from f_117.2 29 (by first | omega | (dsimp only; omega))) (show s1 35 29 = σ 35 29 from hi2_7.2 29 (by first | omega | (dsimp only; omega))))))
              refine lv_iload hC.x hC.b dX10_closes_108 (lv_at hl 4 rfl) ?_
              have av_188 : (nI n).toInt = (n : Int) := (nI_T n (by omega))
              refine goip (runV (As := [.int (s_185 35 29), .int (nI n)]) (rest := [.ref (G.2.1 55)]) hC hK hR hl.1 (c_X10_at l hG s_185 t_114 (s_185 35 29) (((s_185 35 29).toInt).toNat) (by first | rfl | (rw [show (s_185 35 29).toInt = (s_185 35 29).toInt from rfl]; done) | (rw [show (s_185 35 29).toInt = (s_185 35 29).toInt from rfl]; exact rfl)) (nI n) n (by first | rfl | (rw [show (nI n).toInt = (n : Int) from (nI_T n (by omega))]; done) | (rw [show (nI n).toInt = (n : Int) from (nI_T n (by omega))]; exact (Int.toNat_natCast _))) (by omega) (by omega)) (call_b hC.ts TC_X10_at TN_X10 TM_X10_140 hd_X10_at ⟨Nat.le_of_ble_eq_true rfl, Nat.le_of_ble_eq_true rfl⟩) TI_X10_at TS_X10_at (ct_model G _ _) rfl rfl rfl (Nat.le_of_ble_eq_true rfl) dX10_closes_110 ⟨Nat.le_of_ble_eq_true rfl, Nat.le_of_ble_eq_true rfl⟩) hS (fun v_189 H locs w_190 hR hS => ?_)
              subst w_190
              refine lv_aload_n hC.x hC.b dX10_closes_113 rfl (lv_at hl 1 rfl) ?_
              refine lv_iload hC.x hC.b dX10_closes_114 (lv_at hl 4 rfl) ?_
              have rd_191 : (s_185 36 n).toInt = (σ 36 n).toInt := congrArg Int32.toInt (Eq.trans (show s_185 36 n = s_172 36 n from (by rw [es_186]; exact up2_o (by omega))) (Eq.trans (show s_172 36 n = s_113 36 n from (by rw [es_173]; exact up2_o (by omega))) (Eq.trans (show s_113 36 n = s1 36 n from congrFun (f_117.1 36 (by omega) (by first | omega | (dsimp only; omega) | (intro h; exact h))) n) (show s1 36 n = σ 36 n from congrFun (hi2_7.1 36 (by omega) (by first | omega | (dsimp only; omega) | (intro h; exact h))) n))))
              have hcq := (show ClM s_185 from ClM.fr (S := (fun k => (41 ≤ k ∧ k ≤ 46 ∧ k ≠ 42 ∧ k ≠ 43) ∨ (52 ≤ k ∧ k ≤ 69) ∨ k = 71)) (J := (fun j => j = 37 ∨ j = 41 ∨ j = 43 ∨ j = 44)) (σ1 := s_185) hcl (by rw [es_186]; exact MRel.up ((by rw [es_173]; exact MRel.up ((MRel.tr hi2_7 (MRel.mgc f_117))) (by omega) (by first | omega | (dsimp only; omega)))) (by omega) (by first | omega | (dsimp only; omega))) (by first | omega | (dsimp only; omega)) (by first | omega | (dsimp only; omega))) n (by omega) ⟨by omega, by omega⟩
              have av_192 : (nI n).toInt = (n : Int) := (nI_T n (by omega))
              have rd_193 : (s_185 35 29).toInt = (σ 35 29).toInt := congrArg Int32.toInt (Eq.trans (show s_185 35 29 = s_172 35 29 from (by rw [es_186]; exact up2_o (by omega))) (Eq.trans (show s_172 35 29 = s_113 35 29 from (by rw [es_173]; exact up2_o (by omega))) (Eq.trans (show s_113 35 29 = s1 35 29 from f_117.2 29 (by first | omega | (dsimp only; omega))) (show s1 35 29 = σ 35 29 from hi2_7.2 29 (by first | omega | (dsimp only; omega))))))
              have rd_194 : (s_185 37 n).toInt = (σ 37 n).toInt := congrArg Int32.toInt (Eq.trans (show s_185 37 n = s_172 37 n from (by rw [es_186]; exact up2_o (by omega))) (Eq.trans (show s_172 37 n = s_113 37 n from (by rw [es_173]; exact up2_o (by omega))) (Eq.trans (show s_113 37 n = s1 37 n from congrFun (f_117.1 37 (by omega) (by first | omega | (dsimp only; omega) | (intro h; exact h))) n) (show s1 37 n = σ 37 n from congrFun (hi2_7.1 37 (by omega) (by first | omega | (dsimp only; omega) | (intro h; exact h))) n))))
              refine goi (runV (As := [.int (nI n)]) (rest := [.int (nI (24 * (((s_185 35 29).toInt).toNat) + n)), .ref (G.2.1 55)]) hC hK hR hl.1 (c_X10_foretold l hG s_185 t_114 (nI n) n (by first | rfl | (rw [show (nI n).toInt = (n : Int) from (nI_T n (by omega))]; done) | (rw [show (nI n).toInt = (n : Int) from (nI_T n (by omega))]; exact (Int.toNat_natCast _))) (by first | assumption | omega) (by omega) (by first | assumption | omega)) (call_b hC.ts TC_X10_foretold TN_X10 TM_X10_210 hd_X10_foretold ⟨Nat.le_of_ble_eq_true rfl, Nat.le_of_ble_eq_true rfl⟩) TI_X10_foretold TS_X10_foretold (ct_model G _ _) rfl rfl rfl (Nat.le_of_ble_eq_true rfl) dX10_closes_116 ⟨Nat.le_of_ble_eq_true rfl, Nat.le_of_ble_eq_true rfl⟩) hS (fun v_195 s_197 t_198 H locs w_196 hR hS => ?_)
              try dsimp only [po_X10_foretold] at w_196
              have f_199 := w_196
              refine ast hC hK hG hR hS (fun _ => ct_m_fs G _ _) (nI_T _ (by omega)) (by omega) (by omega) (Int.toNat_natCast _) dX10_closes_119 (fun s_200 es_201 H locs hR hS => ?_)
              refine lv_aload_n hC.x hC.b dX10_closes_120 rfl (lv_at hl 1 rfl) ?_
              refine rget hC hK hR (ct_model G _ _) rfl uin_X10 21 (by decide) TF_X10_74 rfl dX10_closes_121 ?_
              refine lv_aload_n hC.x hC.b dX10_closes_124 rfl (lv_at hl 1 rfl) ?_
              refine lv_aload_n hC.x hC.b dX10_closes_125 rfl (lv_at hl 1 rfl) ?_
              refine rget hC hK hR (ct_model G _ _) rfl uin_X10 29 (by decide) TF_X10_137 rfl dX10_closes_126 ?_
              have rd_202 : (s_200 35 29).toInt = (σ 35 29).toInt := congrArg Int32.toInt (Eq.trans (show s_200 35 29 = s_197 35 29 from (by rw [es_201]; exact up2_o (by omega))) (Eq.trans (show s_197 35 29 = s_185 35 29 from f_199.2 29 (by first | omega | (dsimp only; omega))) (Eq.trans (show s_185 35 29 = s_172 35 29 from (by rw [es_186]; exact up2_o (by omega))) (Eq.trans (show s_172 35 29 = s_113 35 29 from (by rw [es_173]; exact up2_o (by omega))) (Eq.trans (show s_113 35 29 = s1 35 29 from f_117.2 29 (by first | omega | (dsimp only; omega))) (show s1 35 29 = σ 35 29 from hi2_7.2 29 (by first | omega | (dsimp only; omega))))))))
              refine lv_iload hC.x hC.b dX10_closes_129 (lv_at hl 4 rfl) ?_
              have av_203 : (nI n).toInt = (n : Int) := (nI_T n (by omega))
              refine goip (runV (As := [.int (s_200 35 29), .int (nI n)]) (rest := [.ref (G.2.1 57)]) hC hK hR hl.1 (c_X10_at l hG s_200 t_198 (s_200 35 29) (((s_200 35 29).toInt).toNat) (by first | rfl | (rw [show (s_200 35 29).toInt = (s_200 35 29).toInt from rfl]; done) | (rw [show (s_200 35 29).toInt = (s_200 35 29).toInt from rfl]; exact rfl)) (nI n) n (by first | rfl | (rw [show (nI n).toInt = (n : Int) from (nI_T n (by omega))]; done) | (rw [show (nI n).toInt = (n : Int) from (nI_T n (by omega))]; exact (Int.toNat_natCast _))) (by omega) (by omega)) (call_b hC.ts TC_X10_at TN_X10 TM_X10_140 hd_X10_at ⟨Nat.le_of_ble_eq_true rfl, Nat.le_of_ble_eq_true rfl⟩) TI_X10_at TS_X10_at (ct_model G _ _) rfl rfl rfl (Nat.le_of_ble_eq_true rfl) dX10_closes_131 ⟨Nat.le_of_ble_eq_true rfl, Nat.le_of_ble_eq_true rfl⟩) hS (fun v_204 H locs w_205 hR hS => ?_)
              subst w_205
              refine lv_aload_n hC.x hC.b dX10_closes_134 rfl (lv_at hl 1 rfl) ?_
              refine lv_iload hC.x hC.b dX10_closes_135 (lv_at hl 4 rfl) ?_
              have rd_206 : (s_200 36 n).toInt = (σ 36 n).toInt := congrArg Int32.toInt (Eq.trans (show s_200 36 n = s_197 36 n from (by rw [es_201]; exact up2_o (by omega))) (Eq.trans (show s_197 36 n = s_185 36 n from congrFun (f_199.1 36 (by omega) (by first | omega | (dsimp only; omega) | (intro h; exact h))) n) (Eq.trans (show s_185 36 n = s_172 36 n from (by rw [es_186]; exact up2_o (by omega))) (Eq.trans (show s_172 36 n = s_113 36 n from (by rw [es_173]; exact up2_o (by omega))) (Eq.trans (show s_113 36 n = s1 36 n from congrFun (f_117.1 36 (by omega) (by first | omega | (dsimp only; omega) | (intro h; exact h))) n) (show s1 36 n = σ 36 n from congrFun (hi2_7.1 36 (by omega) (by first | omega | (dsimp only; omega) | (intro h; exact h))) n))))))
              have hcq := (show ClM s_200 from ClM.fr (S := (fun k => (41 ≤ k ∧ k ≤ 46 ∧ k ≠ 42 ∧ k ≠ 43) ∨ (52 ≤ k ∧ k ≤ 69) ∨ k = 71)) (J := (fun j => j = 37 ∨ j = 41 ∨ j = 43 ∨ j = 44)) (σ1 := s_200) hcl (by rw [es_201]; exact MRel.up ((MRel.tr (by rw [es_186]; exact MRel.up ((by rw [es_173]; exact MRel.up ((MRel.tr hi2_7 (MRel.mgc f_117))) (by omega) (by first | omega | (dsimp only; omega)))) (by omega) (by first | omega | (dsimp only; omega))) (MRel.mfc f_199))) (by omega) (by first | omega | (dsimp only; omega))) (by first | omega | (dsimp only; omega)) (by first | omega | (dsimp only; omega))) n (by omega) ⟨by omega, by omega⟩
              have av_207 : (nI n).toInt = (n : Int) := (nI_T n (by omega))
              have rd_208 : (s_200 35 29).toInt = (σ 35 29).toInt := congrArg Int32.toInt (Eq.trans (show s_200 35 29 = s_197 35 29 from (by rw [es_201]; exact up2_o (by omega))) (Eq.trans (show s_197 35 29 = s_185 35 29 from f_199.2 29 (by first | omega | (dsimp only; omega))) (Eq.trans (show s_185 35 29 = s_172 35 29 from (by rw [es_186]; exact up2_o (by omega))) (Eq.trans (show s_172 35 29 = s_113 35 29 from (by rw [es_173]; exact up2_o (by omega))) (Eq.trans (show s_113 35 29 = s1 35 29 from f_117.2 29 (by first | omega | (dsimp only; omega))) (show s1 35 29 = σ 35 29 from hi2_7.2 29 (by first | omega | (dsimp only; omega))))))))
              have rd_209 : (s_200 37 n).toInt = (σ 37 n).toInt := congrArg Int32.toInt (Eq.trans (show s_200 37 n = s_197 37 n from (by rw [es_201]; exact up2_o (by omega))) (Eq.trans (show s_197 37 n = s_185 37 n from congrFun (f_199.1 37 (by omega) (by first | omega | (dsimp only; omega) | (intro h; exact h))) n) (Eq.trans (show s_185 37 n = s_172 37 n from (by rw [es_186]; exact up2_o (by omega))) (Eq.trans (show s_172 37 n = s_113 37 n from (by rw [es_173]; exact up2_o (by omega))) (Eq.trans (show s_113 37 n = s1 37 n from congrFun (f_117.1 37 (by omega) (by first | omega | (dsimp only; omega) | (intro h; exact h))) n) (show s1 37 n = σ 37 n from congrFun (hi2_7.1 37 (by omega) (by first | omega | (dsimp only; omega) | (intro h; exact h))) n))))))
              refine goi (runV (As := [.int (nI n)]) (rest := [.int (nI (24 * (((s_200 35 29).toInt).toNat) + n)), .ref (G.2.1 57)]) hC hK hR hl.1 (c_X10_full l hG s_200 t_198 (nI n) n (by first | rfl | (rw [show (nI n).toInt = (n : Int) from (nI_T n (by omega))]; done) | (rw [show (nI n).toInt = (n : Int) from (nI_T n (by omega))]; exact (Int.toNat_natCast _))) (by first | assumption | omega) (by omega) (by first | assumption | omega) (by exact (by rw [es_201]; exact KM.up (KM.fr (by rw [es_186]; exact KM.up (by rw [es_173]; exact KM.u71 (KM.fr hi0_7 f_117 (by first | omega | (dsimp only; omega) | exact fun q => q) (by first | omega | (dsimp only; omega) | exact fun q => q) (by first | omega | (dsimp only; omega) | exact fun q => q) (by first | omega | (dsimp only; omega))) (by decide)) (by omega)) f_199 (by first | omega | (dsimp only; omega) | exact fun q => q) (by first | omega | (dsimp only; omega) | exact fun q => q) (by first | omega | (dsimp only; omega) | exact fun q => q) (by first | omega | (dsimp only; omega))) (by omega)))) (call_b hC.ts TC_X10_full TN_X10 TM_X10_225 hd_X10_full ⟨Nat.le_of_ble_eq_true rfl, Nat.le_of_ble_eq_true rfl⟩) TI_X10_full TS_X10_full (ct_model G _ _) rfl rfl rfl (Nat.le_of_ble_eq_true rfl) dX10_closes_137 ⟨Nat.le_of_ble_eq_true rfl, Nat.le_of_ble_eq_true rfl⟩) hS (fun v_210 s_212 t_213 H locs w_211 hR hS => ?_)
              try dsimp only [po_X10_full] at w_211
              have f_214 := w_211
              refine ast hC hK hG hR hS (fun _ => ct_m_ws G _ _) (nI_T _ (by omega)) (by omega) (by omega) (Int.toNat_natCast _) dX10_closes_140 (fun s_215 es_216 H locs hR hS => ?_)
              refine lv_lload_n hC.x hC.b dX10_closes_141 rfl (lv_at hl 3 rfl) ?_
              refine lv_aload_n hC.x hC.b dX10_closes_142 rfl (lv_at hl 1 rfl) ?_
              refine rget hC hK hR (ct_model G _ _) rfl uin_X10 21 (by decide) TF_X10_74 rfl dX10_closes_143 ?_
              refine lv_aload_n hC.x hC.b dX10_closes_146 rfl (lv_at hl 1 rfl) ?_
              refine lv_aload_n hC.x hC.b dX10_closes_147 rfl (lv_at hl 1 rfl) ?_
              refine rget hC hK hR (ct_model G _ _) rfl uin_X10 29 (by decide) TF_X10_137 rfl dX10_closes_148 ?_
              have rd_217 : (s_215 35 29).toInt = (σ 35 29).toInt := congrArg Int32.toInt (Eq.trans (show s_215 35 29 = s_212 35 29 from (by rw [es_216]; exact up2_o (by omega))) (Eq.trans (show s_212 35 29 = s_200 35 29 from f_214.2 29 (by first | omega | (dsimp only; omega))) (Eq.trans (show s_200 35 29 = s_197 35 29 from (by rw [es_201]; exact up2_o (by omega))) (Eq.trans (show s_197 35 29 = s_185 35 29 from f_199.2 29 (by first | omega | (dsimp only; omega))) (Eq.trans (show s_185 35 29 = s_172 35 29 from (by rw [es_186]; exact up2_o (by omega))) (Eq.trans (show s_172 35 29 = s_113 35 29 from (by rw [es_173]; exact up2_o (by omega))) (Eq.trans (show s_113 35 29 = s1 35 29 from f_117.2 29 (by first | omega | (dsimp only; omega))) (show s1 35 29 = σ 35 29 from hi2_7.2 29 (by first | omega | (dsimp only; omega))))))))))
              refine lv_iload hC.x hC.b dX10_closes_151 (lv_at hl 4 rfl) ?_
              have av_218 : (nI n).toInt = (n : Int) := (nI_T n (by omega))
              refine goip (runV (As := [.int (s_215 35 29), .int (nI n)]) (rest := [.ref (G.2.1 57), .long x3]) hC hK hR hl.1 (c_X10_at l hG s_215 t_213 (s_215 35 29) (((s_215 35 29).toInt).toNat) (by first | rfl | (rw [show (s_215 35 29).toInt = (s_215 35 29).toInt from rfl]; done) | (rw [show (s_215 35 29).toInt = (s_215 35 29).toInt from rfl]; exact rfl)) (nI n) n (by first | rfl | (rw [show (nI n).toInt = (n : Int) from (nI_T n (by omega))]; done) | (rw [show (nI n).toInt = (n : Int) from (nI_T n (by omega))]; exact (Int.toNat_natCast _))) (by omega) (by omega)) (call_b hC.ts TC_X10_at TN_X10 TM_X10_140 hd_X10_at ⟨Nat.le_of_ble_eq_true rfl, Nat.le_of_ble_eq_true rfl⟩) TI_X10_at TS_X10_at (ct_model G _ _) rfl rfl rfl (Nat.le_of_ble_eq_true rfl) dX10_closes_153 ⟨Nat.le_of_ble_eq_true rfl, Nat.le_of_ble_eq_true rfl⟩) hS (fun v_219 H locs w_220 hR hS => ?_)
              subst w_220
              refine ald hC hK hR (ct_m_ws G _ _) (nI_T _ (by omega)) (by omega) (by omega) (Int.toNat_natCast _) dX10_closes_156 ?_
              refine lv_i2l hC.x hC.b dX10_closes_157 rfl ?_
              refine lv_ladd hC.x hC.b dX10_closes_158 ?_
              refine lv_topl (fun x_221 ex_222 => ?_)
              refine lv_lstore_n (lv' := [(3, .long x_221), (2, .int x_176), (0, .ref (G.2.1 35)), (1, .int ra), (5, .int (nI n))]) hC.x hC.b dX10_closes_159 rfl hl (by decide) rfl (fun ls hl => ?_)
              refine lv_iinc (v := nI (n + 1)) (lv' := [(5, .int (nI (n + 1))), (3, .long x_221), (2, .int x_176), (0, .ref (G.2.1 35)), (1, .int ra)]) hC.x hC.b dX10_closes_160 hl (k := 4) rfl (nI_succ _).symm (by decide) rfl (fun ls hl => ?_)
              refine lv_goto (tgt := 7) hC.x hC.b dX10_closes_163 (by decide) ?_
              exact ih_7 x_176 x_221 (n + 1) s_215 t_213 (by omega) (by exact (by rw [es_216]; exact KM.up (KM.fr (by rw [es_201]; exact KM.up (KM.fr (by rw [es_186]; exact KM.up (by rw [es_173]; exact KM.u71 (KM.fr hi0_7 f_117 (by first | omega | (dsimp only; omega) | exact fun q => q) (by first | omega | (dsimp only; omega) | exact fun q => q) (by first | omega | (dsimp only; omega) | exact fun q => q) (by first | omega | (dsimp only; omega))) (by decide)) (by omega)) f_199 (by first | omega | (dsimp only; omega) | exact fun q => q) (by first | omega | (dsimp only; omega) | exact fun q => q) (by first | omega | (dsimp only; omega) | exact fun q => q) (by first | omega | (dsimp only; omega))) (by omega)) f_214 (by first | omega | (dsimp only; omega) | exact fun q => q) (by first | omega | (dsimp only; omega) | exact fun q => q) (by first | omega | (dsimp only; omega) | exact fun q => q) (by first | omega | (dsimp only; omega))) (by omega))) (by first | omega | assumption) (by rw [es_216]; exact MRel.up ((MRel.tr (by rw [es_201]; exact MRel.up ((MRel.tr (by rw [es_186]; exact MRel.up ((by rw [es_173]; exact MRel.up ((MRel.tr hi2_7 (MRel.mgc f_117))) (by omega) (by first | omega | (dsimp only; omega)))) (by omega) (by first | omega | (dsimp only; omega))) (MRel.mfc f_199))) (by omega) (by first | omega | (dsimp only; omega))) (MRel.mfc f_214))) (by omega) (by first | omega | (dsimp only; omega))) _ _ _ hR hS (lv_sub hl [3, 4, 2, 1, 0] rfl)
            · skip
              refine lv_goto (tgt := 160) hC.x hC.b dX10_closes_59 (by decide) ?_
              refine lv_iinc (v := nI (n + 1)) (lv' := [(5, .int (nI (n + 1))), (0, .ref (G.2.1 35)), (1, .int ra), (2, .int x2), (3, .long x3)]) hC.x hC.b dX10_closes_160 hl (k := 4) rfl (nI_succ _).symm (by decide) rfl (fun ls hl => ?_)
              refine lv_goto (tgt := 7) hC.x hC.b dX10_closes_163 (by decide) ?_
              exact ih_7 x2 x3 (n + 1) s_172 t_114 (by omega) (by exact (by rw [es_173]; exact KM.u71 (KM.fr hi0_7 f_117 (by first | omega | (dsimp only; omega) | exact fun q => q) (by first | omega | (dsimp only; omega) | exact fun q => q) (by first | omega | (dsimp only; omega) | exact fun q => q) (by first | omega | (dsimp only; omega))) (by decide))) (by first | omega | assumption) (by rw [es_173]; exact MRel.up ((MRel.tr hi2_7 (MRel.mgc f_117))) (by omega) (by first | omega | (dsimp only; omega))) _ _ _ hR hS (lv_sub hl [1, 2, 3, 4, 0] rfl)
        · skip
          have rd_223 : (s1 36 n).toInt = (σ 36 n).toInt := congrArg Int32.toInt (show s1 36 n = σ 36 n from congrFun (hi2_7.1 36 (by omega) (by first | omega | (dsimp only; omega) | (intro h; exact h))) n)
          refine bz_eq (tgt := 47) (a := 0) (b := 0) hC.x hC.b rfl rfl dX10_closes_26 (by decide) (fun _ => ?_) (fun c_224 => absurd c_224 (by decide))
          refine lv_iconst (v := 0) hC.x hC.b dX10_closes_47 (by decide) ?_
          refine zast hC hK hG hR hS (fun _ => ct_m_present G _ _) (nI_T n (by omega)) (by omega) (by omega) (Int.toNat_natCast _) (Or.inl rfl) dX10_closes_48 (fun s_225 es_226 H locs hR hS => ?_)
          refine lv_aload_n hC.x hC.b dX10_closes_49 rfl (lv_at hl 0 rfl) ?_
          refine rget hC hK hR (ct_model G _ _) rfl uin_X10 48 (by decide) TF_X10_126 rfl dX10_closes_50 ?_
          refine lv_iload hC.x hC.b dX10_closes_53 (lv_at hl 4 rfl) ?_
          refine zald hC hK hR (ct_m_present G _ _) (nI_T n (by omega)) (by omega) (by omega) (Int.toNat_natCast _) dX10_closes_55 ?_
          have rd_227 : (s_225 71 n).toInt = 0 := (congrArg Int32.toInt (show s_225 71 n = (0 : Int32) from (by rw [es_226]; exact up2_s))).trans (by decide)
          refine bz_ne (tgt := 62) (a := (s_225 71 n).toInt) (b := 0) hC.x hC.b rfl rfl dX10_closes_56 (by decide) (fun c_228 => ?_) (fun c_228 => ?_)
          · skip
            obtain ⟨x_229, ex_230⟩ : ∃ y : Int32, y = x2 + 1 := ⟨_, rfl⟩
            refine lv_iinc (v := x_229) (lv' := [(2, .int x_229), (0, .ref (G.2.1 35)), (1, .int ra), (3, .long x3), (5, .int (nI n))]) hC.x hC.b dX10_closes_62 hl (k := 2) rfl ex_230.symm (by decide) rfl (fun ls hl => ?_)
            refine lv_aload_n hC.x hC.b dX10_closes_65 rfl (lv_at hl 1 rfl) ?_
            refine rget hC hK hR (ct_model G _ _) rfl uin_X10 22 (by decide) TF_X10_77 rfl dX10_closes_66 ?_
            refine lv_aload_n hC.x hC.b dX10_closes_69 rfl (lv_at hl 1 rfl) ?_
            refine lv_aload_n hC.x hC.b dX10_closes_70 rfl (lv_at hl 1 rfl) ?_
            refine rget hC hK hR (ct_model G _ _) rfl uin_X10 29 (by decide) TF_X10_137 rfl dX10_closes_71 ?_
            have rd_231 : (s_225 35 29).toInt = (σ 35 29).toInt := congrArg Int32.toInt (Eq.trans (show s_225 35 29 = s1 35 29 from (by rw [es_226]; exact up2_o (by omega))) (show s1 35 29 = σ 35 29 from hi2_7.2 29 (by first | omega | (dsimp only; omega))))
            refine lv_iload hC.x hC.b dX10_closes_74 (lv_at hl 4 rfl) ?_
            have av_232 : (nI n).toInt = (n : Int) := (nI_T n (by omega))
            refine goip (runV (As := [.int (s_225 35 29), .int (nI n)]) (rest := [.ref (G.2.1 58)]) hC hK hR hl.1 (c_X10_at l hG s_225 t1 (s_225 35 29) (((s_225 35 29).toInt).toNat) (by first | rfl | (rw [show (s_225 35 29).toInt = (s_225 35 29).toInt from rfl]; done) | (rw [show (s_225 35 29).toInt = (s_225 35 29).toInt from rfl]; exact rfl)) (nI n) n (by first | rfl | (rw [show (nI n).toInt = (n : Int) from (nI_T n (by omega))]; done) | (rw [show (nI n).toInt = (n : Int) from (nI_T n (by omega))]; exact (Int.toNat_natCast _))) (by omega) (by omega)) (call_b hC.ts TC_X10_at TN_X10 TM_X10_140 hd_X10_at ⟨Nat.le_of_ble_eq_true rfl, Nat.le_of_ble_eq_true rfl⟩) TI_X10_at TS_X10_at (ct_model G _ _) rfl rfl rfl (Nat.le_of_ble_eq_true rfl) dX10_closes_76 ⟨Nat.le_of_ble_eq_true rfl, Nat.le_of_ble_eq_true rfl⟩) hS (fun v_233 H locs w_234 hR hS => ?_)
            subst w_234
            refine lv_aload_n hC.x hC.b dX10_closes_79 rfl (lv_at hl 1 rfl) ?_
            refine rget hC hK hR (ct_model G _ _) rfl uin_X10 43 (by decide) TF_X10_158 rfl dX10_closes_80 ?_
            have rd_235 : (s_225 35 43).toInt = (s1 35 43).toInt := congrArg Int32.toInt (show s_225 35 43 = s1 35 43 from (by rw [es_226]; exact up2_o (by omega)))
            refine lv_aload_n hC.x hC.b dX10_closes_83 rfl (lv_at hl 1 rfl) ?_
            refine rget hC hK hR (ct_model G _ _) rfl uin_X10 6 (by decide) TF_X10_29 rfl dX10_closes_84 ?_
            refine lv_iload hC.x hC.b dX10_closes_87 (lv_at hl 4 rfl) ?_
            refine ald hC hK hR (ct_m_setting G _ _) (nI_T n (by omega)) (by omega) (by omega) (Int.toNat_natCast _) dX10_closes_89 ?_
            have rd_236 : (s_225 42 n).toInt = (σ 42 n).toInt := congrArg Int32.toInt (Eq.trans (show s_225 42 n = s1 42 n from (by rw [es_226]; exact up2_o (by omega))) (show s1 42 n = σ 42 n from congrFun (hi2_7.1 42 (by omega) (by first | omega | (dsimp only; omega) | (intro h; exact h))) n))
            refine lv_isub hC.x hC.b dX10_closes_90 ?_
            refine lv_aload_n hC.x hC.b dX10_closes_91 rfl (lv_at hl 1 rfl) ?_
            refine rget hC hK hR (ct_model G _ _) rfl uin_X10 6 (by decide) TF_X10_29 rfl dX10_closes_92 ?_
            refine lv_iload_n hC.x hC.b dX10_closes_95 rfl (lv_at hl 2 rfl) ?_
            refine ald hC hK hR (ct_m_setting G _ _) rfl (by omega) (by omega) hp_rq dX10_closes_96 ?_
            have rd_237 : (s_225 42 rq).toInt = (σ 42 rq).toInt := congrArg Int32.toInt (Eq.trans (show s_225 42 rq = s1 42 rq from (by rw [es_226]; exact up2_o (by omega))) (show s1 42 rq = σ 42 rq from congrFun (hi2_7.1 42 (by omega) (by first | omega | (dsimp only; omega) | (intro h; exact h))) rq))
            refine lv_iadd hC.x hC.b dX10_closes_97 ?_
            refine ast hC hK hG hR hS (fun _ => ct_m_ds G _ _) (nI_T _ (by omega)) (by omega) (by omega) (Int.toNat_natCast _) dX10_closes_98 (fun s_238 es_239 H locs hR hS => ?_)
            refine lv_aload_n hC.x hC.b dX10_closes_99 rfl (lv_at hl 1 rfl) ?_
            refine rget hC hK hR (ct_model G _ _) rfl uin_X10 19 (by decide) TF_X10_68 rfl dX10_closes_100 ?_
            refine lv_aload_n hC.x hC.b dX10_closes_103 rfl (lv_at hl 1 rfl) ?_
            refine lv_aload_n hC.x hC.b dX10_closes_104 rfl (lv_at hl 1 rfl) ?_
            refine rget hC hK hR (ct_model G _ _) rfl uin_X10 29 (by decide) TF_X10_137 rfl dX10_closes_105 ?_
            have rd_240 : (s_238 35 29).toInt = (σ 35 29).toInt := congrArg Int32.toInt (Eq.trans (show s_238 35 29 = s_225 35 29 from (by rw [es_239]; exact up2_o (by omega))) (Eq.trans (show s_225 35 29 = s1 35 29 from (by rw [es_226]; exact up2_o (by omega))) (show s1 35 29 = σ 35 29 from hi2_7.2 29 (by first | omega | (dsimp only; omega)))))
            refine lv_iload hC.x hC.b dX10_closes_108 (lv_at hl 4 rfl) ?_
            have av_241 : (nI n).toInt = (n : Int) := (nI_T n (by omega))
            refine goip (runV (As := [.int (s_238 35 29), .int (nI n)]) (rest := [.ref (G.2.1 55)]) hC hK hR hl.1 (c_X10_at l hG s_238 t1 (s_238 35 29) (((s_238 35 29).toInt).toNat) (by first | rfl | (rw [show (s_238 35 29).toInt = (s_238 35 29).toInt from rfl]; done) | (rw [show (s_238 35 29).toInt = (s_238 35 29).toInt from rfl]; exact rfl)) (nI n) n (by first | rfl | (rw [show (nI n).toInt = (n : Int) from (nI_T n (by omega))]; done) | (rw [show (nI n).toInt = (n : Int) from (nI_T n (by omega))]; exact (Int.toNat_natCast _))) (by omega) (by omega)) (call_b hC.ts TC_X10_at TN_X10 TM_X10_140 hd_X10_at ⟨Nat.le_of_ble_eq_true rfl, Nat.le_of_ble_eq_true rfl⟩) TI_X10_at TS_X10_at (ct_model G _ _) rfl rfl rfl (Nat.le_of_ble_eq_true rfl) dX10_closes_110 ⟨Nat.le_of_ble_eq_true rfl, Nat.le_of_ble_eq_true rfl⟩) hS (fun v_242 H locs w_243 hR hS => ?_)
            subst w_243
            refine lv_aload_n hC.x hC.b dX10_closes_113 rfl (lv_at hl 1 rfl) ?_
            refine lv_iload hC.x hC.b dX10_closes_114 (lv_at hl 4 rfl) ?_
            have rd_244 : (s_238 36 n).toInt = (σ 36 n).toInt := congrArg Int32.toInt (Eq.trans (show s_238 36 n = s_225 36 n from (by rw [es_239]; exact up2_o (by omega))) (Eq.trans (show s_225 36 n = s1 36 n from (by rw [es_226]; exact up2_o (by omega))) (show s1 36 n = σ 36 n from congrFun (hi2_7.1 36 (by omega) (by first | omega | (dsimp only; omega) | (intro h; exact h))) n)))
            have hcq := (show ClM s_238 from ClM.fr (S := (fun k => (41 ≤ k ∧ k ≤ 46 ∧ k ≠ 42 ∧ k ≠ 43) ∨ (52 ≤ k ∧ k ≤ 69) ∨ k = 71)) (J := (fun j => j = 37 ∨ j = 41 ∨ j = 43 ∨ j = 44)) (σ1 := s_238) hcl (by rw [es_239]; exact MRel.up ((by rw [es_226]; exact MRel.up (hi2_7) (by omega) (by first | omega | (dsimp only; omega)))) (by omega) (by first | omega | (dsimp only; omega))) (by first | omega | (dsimp only; omega)) (by first | omega | (dsimp only; omega))) n (by omega) ⟨by omega, by omega⟩
            have av_245 : (nI n).toInt = (n : Int) := (nI_T n (by omega))
            have rd_246 : (s_238 35 29).toInt = (σ 35 29).toInt := congrArg Int32.toInt (Eq.trans (show s_238 35 29 = s_225 35 29 from (by rw [es_239]; exact up2_o (by omega))) (Eq.trans (show s_225 35 29 = s1 35 29 from (by rw [es_226]; exact up2_o (by omega))) (show s1 35 29 = σ 35 29 from hi2_7.2 29 (by first | omega | (dsimp only; omega)))))
            have rd_247 : (s_238 37 n).toInt = (σ 37 n).toInt := congrArg Int32.toInt (Eq.trans (show s_238 37 n = s_225 37 n from (by rw [es_239]; exact up2_o (by omega))) (Eq.trans (show s_225 37 n = s1 37 n from (by rw [es_226]; exact up2_o (by omega))) (show s1 37 n = σ 37 n from congrFun (hi2_7.1 37 (by omega) (by first | omega | (dsimp only; omega) | (intro h; exact h))) n)))
            refine goi (runV (As := [.int (nI n)]) (rest := [.int (nI (24 * (((s_238 35 29).toInt).toNat) + n)), .ref (G.2.1 55)]) hC hK hR hl.1 (c_X10_foretold l hG s_238 t1 (nI n) n (by first | rfl | (rw [show (nI n).toInt = (n : Int) from (nI_T n (by omega))]; done) | (rw [show (nI n).toInt = (n : Int) from (nI_T n (by omega))]; exact (Int.toNat_natCast _))) (by first | assumption | omega) (by omega) (by first | assumption | omega)) (call_b hC.ts TC_X10_foretold TN_X10 TM_X10_210 hd_X10_foretold ⟨Nat.le_of_ble_eq_true rfl, Nat.le_of_ble_eq_true rfl⟩) TI_X10_foretold TS_X10_foretold (ct_model G _ _) rfl rfl rfl (Nat.le_of_ble_eq_true rfl) dX10_closes_116 ⟨Nat.le_of_ble_eq_true rfl, Nat.le_of_ble_eq_true rfl⟩) hS (fun v_248 s_250 t_251 H locs w_249 hR hS => ?_)
            try dsimp only [po_X10_foretold] at w_249
            have f_252 := w_249
            refine ast hC hK hG hR hS (fun _ => ct_m_fs G _ _) (nI_T _ (by omega)) (by omega) (by omega) (Int.toNat_natCast _) dX10_closes_119 (fun s_253 es_254 H locs hR hS => ?_)
            refine lv_aload_n hC.x hC.b dX10_closes_120 rfl (lv_at hl 1 rfl) ?_
            refine rget hC hK hR (ct_model G _ _) rfl uin_X10 21 (by decide) TF_X10_74 rfl dX10_closes_121 ?_
            refine lv_aload_n hC.x hC.b dX10_closes_124 rfl (lv_at hl 1 rfl) ?_
            refine lv_aload_n hC.x hC.b dX10_closes_125 rfl (lv_at hl 1 rfl) ?_
            refine rget hC hK hR (ct_model G _ _) rfl uin_X10 29 (by decide) TF_X10_137 rfl dX10_closes_126 ?_
            have rd_255 : (s_253 35 29).toInt = (σ 35 29).toInt := congrArg Int32.toInt (Eq.trans (show s_253 35 29 = s_250 35 29 from (by rw [es_254]; exact up2_o (by omega))) (Eq.trans (show s_250 35 29 = s_238 35 29 from f_252.2 29 (by first | omega | (dsimp only; omega))) (Eq.trans (show s_238 35 29 = s_225 35 29 from (by rw [es_239]; exact up2_o (by omega))) (Eq.trans (show s_225 35 29 = s1 35 29 from (by rw [es_226]; exact up2_o (by omega))) (show s1 35 29 = σ 35 29 from hi2_7.2 29 (by first | omega | (dsimp only; omega)))))))
            refine lv_iload hC.x hC.b dX10_closes_129 (lv_at hl 4 rfl) ?_
            have av_256 : (nI n).toInt = (n : Int) := (nI_T n (by omega))
            refine goip (runV (As := [.int (s_253 35 29), .int (nI n)]) (rest := [.ref (G.2.1 57)]) hC hK hR hl.1 (c_X10_at l hG s_253 t_251 (s_253 35 29) (((s_253 35 29).toInt).toNat) (by first | rfl | (rw [show (s_253 35 29).toInt = (s_253 35 29).toInt from rfl]; done) | (rw [show (s_253 35 29).toInt = (s_253 35 29).toInt from rfl]; exact rfl)) (nI n) n (by first | rfl | (rw [show (nI n).toInt = (n : Int) from (nI_T n (by omega))]; done) | (rw [show (nI n).toInt = (n : Int) from (nI_T n (by omega))]; exact (Int.toNat_natCast _))) (by omega) (by omega)) (call_b hC.ts TC_X10_at TN_X10 TM_X10_140 hd_X10_at ⟨Nat.le_of_ble_eq_true rfl, Nat.le_of_ble_eq_true rfl⟩) TI_X10_at TS_X10_at (ct_model G _ _) rfl rfl rfl (Nat.le_of_ble_eq_true rfl) dX10_closes_131 ⟨Nat.le_of_ble_eq_true rfl, Nat.le_of_ble_eq_true rfl⟩) hS (fun v_257 H locs w_258 hR hS => ?_)
            subst w_258
            refine lv_aload_n hC.x hC.b dX10_closes_134 rfl (lv_at hl 1 rfl) ?_
            refine lv_iload hC.x hC.b dX10_closes_135 (lv_at hl 4 rfl) ?_
            have rd_259 : (s_253 36 n).toInt = (σ 36 n).toInt := congrArg Int32.toInt (Eq.trans (show s_253 36 n = s_250 36 n from (by rw [es_254]; exact up2_o (by omega))) (Eq.trans (show s_250 36 n = s_238 36 n from congrFun (f_252.1 36 (by omega) (by first | omega | (dsimp only; omega) | (intro h; exact h))) n) (Eq.trans (show s_238 36 n = s_225 36 n from (by rw [es_239]; exact up2_o (by omega))) (Eq.trans (show s_225 36 n = s1 36 n from (by rw [es_226]; exact up2_o (by omega))) (show s1 36 n = σ 36 n from congrFun (hi2_7.1 36 (by omega) (by first | omega | (dsimp only; omega) | (intro h; exact h))) n)))))
            have hcq := (show ClM s_253 from ClM.fr (S := (fun k => (41 ≤ k ∧ k ≤ 46 ∧ k ≠ 42 ∧ k ≠ 43) ∨ (52 ≤ k ∧ k ≤ 69) ∨ k = 71)) (J := (fun j => j = 37 ∨ j = 41 ∨ j = 43 ∨ j = 44)) (σ1 := s_253) hcl (by rw [es_254]; exact MRel.up ((MRel.tr (by rw [es_239]; exact MRel.up ((by rw [es_226]; exact MRel.up (hi2_7) (by omega) (by first | omega | (dsimp only; omega)))) (by omega) (by first | omega | (dsimp only; omega))) (MRel.mfc f_252))) (by omega) (by first | omega | (dsimp only; omega))) (by first | omega | (dsimp only; omega)) (by first | omega | (dsimp only; omega))) n (by omega) ⟨by omega, by omega⟩
            have av_260 : (nI n).toInt = (n : Int) := (nI_T n (by omega))
            have rd_261 : (s_253 35 29).toInt = (σ 35 29).toInt := congrArg Int32.toInt (Eq.trans (show s_253 35 29 = s_250 35 29 from (by rw [es_254]; exact up2_o (by omega))) (Eq.trans (show s_250 35 29 = s_238 35 29 from f_252.2 29 (by first | omega | (dsimp only; omega))) (Eq.trans (show s_238 35 29 = s_225 35 29 from (by rw [es_239]; exact up2_o (by omega))) (Eq.trans (show s_225 35 29 = s1 35 29 from (by rw [es_226]; exact up2_o (by omega))) (show s1 35 29 = σ 35 29 from hi2_7.2 29 (by first | omega | (dsimp only; omega)))))))
            have rd_262 : (s_253 37 n).toInt = (σ 37 n).toInt := congrArg Int32.toInt (Eq.trans (show s_253 37 n = s_250 37 n from (by rw [es_254]; exact up2_o (by omega))) (Eq.trans (show s_250 37 n = s_238 37 n from congrFun (f_252.1 37 (by omega) (by first | omega | (dsimp only; omega) | (intro h; exact h))) n) (Eq.trans (show s_238 37 n = s_225 37 n from (by rw [es_239]; exact up2_o (by omega))) (Eq.trans (show s_225 37 n = s1 37 n from (by rw [es_226]; exact up2_o (by omega))) (show s1 37 n = σ 37 n from congrFun (hi2_7.1 37 (by omega) (by first | omega | (dsimp only; omega) | (intro h; exact h))) n)))))
            refine goi (runV (As := [.int (nI n)]) (rest := [.int (nI (24 * (((s_253 35 29).toInt).toNat) + n)), .ref (G.2.1 57)]) hC hK hR hl.1 (c_X10_full l hG s_253 t_251 (nI n) n (by first | rfl | (rw [show (nI n).toInt = (n : Int) from (nI_T n (by omega))]; done) | (rw [show (nI n).toInt = (n : Int) from (nI_T n (by omega))]; exact (Int.toNat_natCast _))) (by first | assumption | omega) (by omega) (by first | assumption | omega) (by exact (by rw [es_254]; exact KM.up (KM.fr (by rw [es_239]; exact KM.up (by rw [es_226]; exact KM.u71 hi0_7 (by decide)) (by omega)) f_252 (by first | omega | (dsimp only; omega) | exact fun q => q) (by first | omega | (dsimp only; omega) | exact fun q => q) (by first | omega | (dsimp only; omega) | exact fun q => q) (by first | omega | (dsimp only; omega))) (by omega)))) (call_b hC.ts TC_X10_full TN_X10 TM_X10_225 hd_X10_full ⟨Nat.le_of_ble_eq_true rfl, Nat.le_of_ble_eq_true rfl⟩) TI_X10_full TS_X10_full (ct_model G _ _) rfl rfl rfl (Nat.le_of_ble_eq_true rfl) dX10_closes_137 ⟨Nat.le_of_ble_eq_true rfl, Nat.le_of_ble_eq_true rfl⟩) hS (fun v_263 s_265 t_266 H locs w_264 hR hS => ?_)
            try dsimp only [po_X10_full] at w_264
            have f_267 := w_264
            refine ast hC hK hG hR hS (fun _ => ct_m_ws G _ _) (nI_T _ (by omega)) (by omega) (by omega) (Int.toNat_natCast _) dX10_closes_140 (fun s_268 es_269 H locs hR hS => ?_)
            refine lv_lload_n hC.x hC.b dX10_closes_141 rfl (lv_at hl 3 rfl) ?_
            refine lv_aload_n hC.x hC.b dX10_closes_142 rfl (lv_at hl 1 rfl) ?_
            refine rget hC hK hR (ct_model G _ _) rfl uin_X10 21 (by decide) TF_X10_74 rfl dX10_closes_143 ?_
            refine lv_aload_n hC.x hC.b dX10_closes_146 rfl (lv_at hl 1 rfl) ?_
            refine lv_aload_n hC.x hC.b dX10_closes_147 rfl (lv_at hl 1 rfl) ?_
            refine rget hC hK hR (ct_model G _ _) rfl uin_X10 29 (by decide) TF_X10_137 rfl dX10_closes_148 ?_
            have rd_270 : (s_268 35 29).toInt = (σ 35 29).toInt := congrArg Int32.toInt (Eq.trans (show s_268 35 29 = s_265 35 29 from (by rw [es_269]; exact up2_o (by omega))) (Eq.trans (show s_265 35 29 = s_253 35 29 from f_267.2 29 (by first | omega | (dsimp only; omega))) (Eq.trans (show s_253 35 29 = s_250 35 29 from (by rw [es_254]; exact up2_o (by omega))) (Eq.trans (show s_250 35 29 = s_238 35 29 from f_252.2 29 (by first | omega | (dsimp only; omega))) (Eq.trans (show s_238 35 29 = s_225 35 29 from (by rw [es_239]; exact up2_o (by omega))) (Eq.trans (show s_225 35 29 = s1 35 29 from (by rw [es_226]; exact up2_o (by omega))) (show s1 35 29 = σ 35 29 from hi2_7.2 29 (by first | omega | (dsimp only; omega)))))))))
            refine lv_iload hC.x hC.b dX10_closes_151 (lv_at hl 4 rfl) ?_
            have av_271 : (nI n).toInt = (n : Int) := (nI_T n (by omega))
            refine goip (runV (As := [.int (s_268 35 29), .int (nI n)]) (rest := [.ref (G.2.1 57), .long x3]) hC hK hR hl.1 (c_X10_at l hG s_268 t_266 (s_268 35 29) (((s_268 35 29).toInt).toNat) (by first | rfl | (rw [show (s_268 35 29).toInt = (s_268 35 29).toInt from rfl]; done) | (rw [show (s_268 35 29).toInt = (s_268 35 29).toInt from rfl]; exact rfl)) (nI n) n (by first | rfl | (rw [show (nI n).toInt = (n : Int) from (nI_T n (by omega))]; done) | (rw [show (nI n).toInt = (n : Int) from (nI_T n (by omega))]; exact (Int.toNat_natCast _))) (by omega) (by omega)) (call_b hC.ts TC_X10_at TN_X10 TM_X10_140 hd_X10_at ⟨Nat.le_of_ble_eq_true rfl, Nat.le_of_ble_eq_true rfl⟩) TI_X10_at TS_X10_at (ct_model G _ _) rfl rfl rfl (Nat.le_of_ble_eq_true rfl) dX10_closes_153 ⟨Nat.le_of_ble_eq_true rfl, Nat.le_of_ble_eq_true rfl⟩) hS (fun v_272 H locs w_273 hR hS => ?_)
            subst w_273
            refine ald hC hK hR (ct_m_ws G _ _) (nI_T _ (by omega)) (by omega) (by omega) (Int.toNat_natCast _) dX10_closes_156 ?_
            refine lv_i2l hC.x hC.b dX10_closes_157 rfl ?_
            refine lv_ladd hC.x hC.b dX10_closes_158 ?_
            refine lv_topl (fun x_274 ex_275 => ?_)
            refine lv_lstore_n (lv' := [(3, .long x_274), (2, .int x_229), (0, .ref (G.2.1 35)), (1, .int ra), (5, .int (nI n))]) hC.x hC.b dX10_closes_159 rfl hl (by decide) rfl (fun ls hl => ?_)
            refine lv_iinc (v := nI (n + 1)) (lv' := [(5, .int (nI (n + 1))), (3, .long x_274), (2, .int x_229), (0, .ref (G.2.1 35)), (1, .int ra)]) hC.x hC.b dX10_closes_160 hl (k := 4) rfl (nI_succ _).symm (by decide) rfl (fun ls hl => ?_)
            refine lv_goto (tgt := 7) hC.x hC.b dX10_closes_163 (by decide) ?_
            exact ih_7 x_229 x_274 (n + 1) s_268 t_266 (by omega) (by exact (by rw [es_269]; exact KM.up (KM.fr (by rw [es_254]; exact KM.up (KM.fr (by rw [es_239]; exact KM.up (by rw [es_226]; exact KM.u71 hi0_7 (by decide)) (by omega)) f_252 (by first | omega | (dsimp only; omega) | exact fun q => q) (by first | omega | (dsimp only; omega) | exact fun q => q) (by first | omega | (dsimp only; omega) | exact fun q => q) (by first | omega | (dsimp only; omega))) (by omega)) f_267 (by first | omega | (dsimp only; omega) | exact fun q => q) (by first | omega | (dsimp only; omega) | exact fun q => q) (by first | omega | (dsimp only; omega) | exact fun q => q) (by first | omega | (dsimp only; omega))) (by omega))) (by first | omega | assumption) (by rw [es_269]; exact MRel.up ((MRel.tr (by rw [es_254]; exact MRel.up ((MRel.tr (by rw [es_239]; exact MRel.up ((by rw [es_226]; exact MRel.up (hi2_7) (by omega) (by first | omega | (dsimp only; omega)))) (by omega) (by first | omega | (dsimp only; omega))) (MRel.mfc f_252))) (by omega) (by first | omega | (dsimp only; omega))) (MRel.mfc f_267))) (by omega) (by first | omega | (dsimp only; omega))) _ _ _ hR hS (lv_sub hl [3, 4, 2, 1, 0] rfl)
          · skip
            refine lv_goto (tgt := 160) hC.x hC.b dX10_closes_59 (by decide) ?_
            refine lv_iinc (v := nI (n + 1)) (lv' := [(5, .int (nI (n + 1))), (0, .ref (G.2.1 35)), (1, .int ra), (2, .int x2), (3, .long x3)]) hC.x hC.b dX10_closes_160 hl (k := 4) rfl (nI_succ _).symm (by decide) rfl (fun ls hl => ?_)
            refine lv_goto (tgt := 7) hC.x hC.b dX10_closes_163 (by decide) ?_
            exact ih_7 x2 x3 (n + 1) s_225 t1 (by omega) (by exact (by rw [es_226]; exact KM.u71 hi0_7 (by decide))) (by first | omega | assumption) (by rw [es_226]; exact MRel.up (hi2_7) (by omega) (by first | omega | (dsimp only; omega))) _ _ _ hR hS (lv_sub hl [1, 2, 3, 4, 0] rfl)
  exact L_7 _ (0 : Int32) (0 : Int64) 0 σ τ (Nat.lt_succ_self _) (by exact hkm) (by first | omega | assumption) MRel.rf _ _ _ hR hS (lv_sub hl [3, 4, 2, 1, 0] rfl)

abbrev po_X10_close (σ : SI) (τ : SL) : Int32 → SI × SL → Prop := fun v u => ((v = (-1)) ∧ (MRel (fun k => (41 ≤ k ∧ k ≤ 46 ∧ k ≠ 42 ∧ k ≠ 43) ∨ (52 ≤ k ∧ k ≤ 69) ∨ k = 71) (fun j => j = 29 ∨ j = 33 ∨ j = 37 ∨ j = 41 ∨ j = 43 ∨ j = 44) σ u.1) ∧ ((σ 35 29).toInt = 200) ∧ (u.1 = σ)) ∨ ((MRel (fun k => (41 ≤ k ∧ k ≤ 46 ∧ k ≠ 42 ∧ k ≠ 43) ∨ (52 ≤ k ∧ k ≤ 69) ∨ k = 71) (fun j => j = 29 ∨ j = 33 ∨ j = 37 ∨ j = 41 ∨ j = 43 ∨ j = 44) σ u.1) ∧ ((σ 35 29).toInt < 200) ∧ (KM u.1) ∧ ((u.1 35 29).toInt = (σ 35 29).toInt + 1) ∧ ((0 < (σ 35 33).toInt ∧ (u.1 35 33).toInt = max 0 ((σ 35 33).toInt - (σ 35 32).toInt)) ∨ ((σ 35 33).toInt ≤ 0 ∧ (u.1 35 33).toInt = min 0 ((σ 35 33).toInt + (σ 35 32).toInt))))
set_option maxRecDepth 100000 in
set_option maxHeartbeats 4000000 in
theorem c_X10_close (l : Launch) {G : Gx} {A : Nat → Prop} (hG : GOk G A) (σ : SI) (τ : SL) (hnw : 0 ≤ (σ 35 29).toInt ∧ (σ 35 29).toInt ≤ 200) (hof : -1000000 ≤ (σ 35 33).toInt ∧ (σ 35 33).toInt ≤ 1000000) (hpc : 0 ≤ (σ 35 32).toInt ∧ (σ 35 32).toInt ≤ 3599) (hln : LnM σ) (hcl : ClM σ) (hkm : KM σ) : MI l G A 7 yX10_close cX10_close 4 (some .int) [.ref (G.2.1 35)] (σ, τ) (po_X10_close σ τ ) := by
  refine met_of (own := RX10) (by decide +kernel) rfl [(0, .ref (G.2.1 35))] rfl (Nat.le_of_ble_eq_true rfl) ?_
  intro p e s m args below meth c ls hC hK hR hl
  have hS : va_S A s.heap s.heap [] := va_S.rf
  refine lv_aload_n hC.x hC.b dX10_close_0 rfl (lv_at hl 0 rfl) ?_
  refine rget hC hK hR (ct_model G _ _) rfl uin_X10 29 (by decide) TF_X10_137 rfl dX10_close_1 ?_
  refine lv_sipush (v := 200) hC.x hC.b dX10_close_4 (by decide) ?_
  refine bi_ne (tgt := 12) (a := (σ 35 29).toInt) (b := 200) hC.x hC.b rfl rfl dX10_close_7 (by decide) (fun c_1 => ?_) (fun c_1 => ?_)
  · skip
    refine lv_iconst (v := 0) hC.x hC.b dX10_close_12 (by decide) ?_
    refine lv_istore_n (lv' := [(1, .int (0 : Int32)), (0, .ref (G.2.1 35))]) hC.x hC.b dX10_close_13 rfl hl (by decide) rfl (fun ls hl => ?_)
    have L_14 : ∀ (F : Nat) (n : Nat) (s1 : SI), (24 - n) < F → (KM s1) → (n ≤ 24) → ((s1 35 29).toInt = (σ 35 29).toInt ∧ (s1 35 33).toInt = (σ 35 33).toInt) → (MRel (fun k => (41 ≤ k ∧ k ≤ 46 ∧ k ≠ 42 ∧ k ≠ 43) ∨ (52 ≤ k ∧ k ≤ 69) ∨ k = 71) (fun j => j = 29 ∨ j = 33 ∨ j = 37 ∨ j = 41 ∨ j = 43 ∨ j = 44) σ s1) → ∀ (H : Heap) (locs : List Loc) (ls : Array Slot), RepH G s1 τ H → va_S A s.heap H locs → lv_has ls 4 [(0, .ref (G.2.1 35)), (1, .int (nI n))] → W p l e (rmD 7) s m args below meth c H locs 0 0 (MQ below (va_Qi (po_X10_close σ τ ) (BU G) A) args s 0 0 A) (F0 m 14 ls []) := by
      intro F
      induction F with
      | zero => intro n s1 hm; exact absurd hm (Nat.not_lt_zero _)
      | succ F ih_14 =>
        intro n s1 hm_14 hi0_14 hi1_14 hi2_14 hi3_14 H locs ls hR hS hl
        have hnI := nI_T n (by omega)
        refine lv_iload_n hC.x hC.b dX10_close_14 rfl (lv_at hl 1 rfl) ?_
        refine lv_bipush (v := 24) hC.x hC.b dX10_close_15 (by decide) ?_
        refine bi_ge (tgt := 56) (a := (n : Int)) (b := 24) hC.x hC.b (nI_T n (by omega)) rfl dX10_close_17 (by decide) (fun c_2 => ?_) (fun c_2 => ?_)
        · skip
          refine lv_aload_n hC.x hC.b dX10_close_56 rfl (lv_at hl 0 rfl) ?_
          refine goip (runV (As := []) (rest := []) hC hK hR hl.1 (c_X10_root l hG s1 τ  ) (call_b hC.ts TC_X10_root TN_X10 TM_X10_228 hd_X10_root ⟨Nat.le_of_ble_eq_true rfl, Nat.le_of_ble_eq_true rfl⟩) TI_X10_root TS_X10_root (ct_model G _ _) rfl rfl rfl (Nat.le_of_ble_eq_true rfl) dX10_close_57 ⟨Nat.le_of_ble_eq_true rfl, Nat.le_of_ble_eq_true rfl⟩) hS (fun v_3 H locs w_4 hR hS => ?_)
          have f_5 := w_4
          refine lv_istore_n (lv' := [(1, .int v_3), (0, .ref (G.2.1 35))]) hC.x hC.b dX10_close_60 rfl hl (by decide) rfl (fun ls hl => ?_)
          refine lv_aload_n hC.x hC.b dX10_close_61 rfl (lv_at hl 1 rfl) ?_
          refine rget hC hK hR (ct_model G _ _) rfl uin_X10 23 (by decide) TF_X10_80 rfl dX10_close_62 ?_
          refine lv_aload_n hC.x hC.b dX10_close_65 rfl (lv_at hl 1 rfl) ?_
          refine rget hC hK hR (ct_model G _ _) rfl uin_X10 29 (by decide) TF_X10_137 rfl dX10_close_66 ?_
          refine lv_iload_n hC.x hC.b dX10_close_69 rfl (lv_at hl 0 rfl) ?_
          refine ast hC hK hG hR hS (fun _ => ct_m_roots G _ _) rfl (by omega) (by omega) rfl dX10_close_70 (fun s_6 es_7 H locs hR hS => ?_)
          refine lv_aload_n hC.x hC.b dX10_close_71 rfl (lv_at hl 1 rfl) ?_
          refine rget hC hK hR (ct_model G _ _) rfl uin_X10 24 (by decide) TF_X10_83 rfl dX10_close_72 ?_
          refine lv_aload_n hC.x hC.b dX10_close_75 rfl (lv_at hl 1 rfl) ?_
          refine rget hC hK hR (ct_model G _ _) rfl uin_X10 29 (by decide) TF_X10_137 rfl dX10_close_76 ?_
          have rd_8 : (s_6 35 29).toInt = (s1 35 29).toInt := congrArg Int32.toInt (show s_6 35 29 = s1 35 29 from (by rw [es_7]; exact up2_o (by omega)))
          refine lv_iconst (v := 0) hC.x hC.b dX10_close_79 (by decide) ?_
          refine ast hC hK hG hR hS (fun _ => ct_m_presents G _ _) rfl (by omega) (by omega) rfl dX10_close_80 (fun s_9 es_10 H locs hR hS => ?_)
          refine lv_aload_n hC.x hC.b dX10_close_81 rfl (lv_at hl 1 rfl) ?_
          refine rget hC hK hR (ct_model G _ _) rfl uin_X10 27 (by decide) TF_X10_92 rfl dX10_close_82 ?_
          refine lv_aload_n hC.x hC.b dX10_close_85 rfl (lv_at hl 1 rfl) ?_
          refine rget hC hK hR (ct_model G _ _) rfl uin_X10 29 (by decide) TF_X10_137 rfl dX10_close_86 ?_
          have rd_11 : (s_9 35 29).toInt = (s1 35 29).toInt := congrArg Int32.toInt (Eq.trans (show s_9 35 29 = s_6 35 29 from (by rw [es_10]; exact up2_o (by omega))) (show s_6 35 29 = s1 35 29 from (by rw [es_7]; exact up2_o (by omega))))
          refine lv_aload_n hC.x hC.b dX10_close_89 rfl (lv_at hl 1 rfl) ?_
          refine rget hC hK hR (ct_model G _ _) rfl uin_X10 30 (by decide) TF_X10_98 rfl dX10_close_90 ?_
          have rd_12 : (s_9 35 30).toInt = (σ 35 30).toInt := congrArg Int32.toInt (Eq.trans (show s_9 35 30 = s_6 35 30 from (by rw [es_10]; exact up2_o (by omega))) (Eq.trans (show s_6 35 30 = s1 35 30 from (by rw [es_7]; exact up2_o (by omega))) (show s1 35 30 = σ 35 30 from hi3_14.2 30 (by first | omega | (dsimp only; omega)))))
          refine ast hC hK hG hR hS (fun _ => ct_m_parts G _ _) rfl (by omega) (by omega) rfl dX10_close_93 (fun s_13 es_14 H locs hR hS => ?_)
          have L_109 : ∀ (x2 : Int32) (s5 : SI) (t5 : SL), (KM s5) → ((s5 35 29).toInt = (σ 35 29).toInt ∧ (s5 35 33).toInt = (σ 35 33).toInt) → (MRel (fun k => (41 ≤ k ∧ k ≤ 46 ∧ k ≠ 42 ∧ k ≠ 43) ∨ (52 ≤ k ∧ k ≤ 69) ∨ k = 71) (fun j => j = 29 ∨ j = 33 ∨ j = 37 ∨ j = 41 ∨ j = 43 ∨ j = 44) σ s5) → ∀ (H : Heap) (locs : List Loc) (ls : Array Slot), RepH G s5 t5 H → va_S A s.heap H locs → lv_has ls 4 [(0, .ref (G.2.1 35)), (2, .int x2)] → W p l e (rmD 7) s m args below meth c H locs 0 0 (MQ below (va_Qi (po_X10_close σ τ ) (BU G) A) args s 0 0 A) (F0 m 109 ls []) := by
            intro x2 s5 t5 hi0_109 hi1_109 hi2_109 H locs ls hR hS hl
            refine lv_aload_n hC.x hC.b dX10_close_109 rfl (lv_at hl 0 rfl) ?_
            refine rget hC hK hR (ct_model G _ _) rfl uin_X10 33 (by decide) TF_X10_235 rfl dX10_close_110 ?_
            refine bz_ge (tgt := 124) (a := (s5 35 33).toInt) (b := 0) hC.x hC.b rfl rfl dX10_close_113 (by decide) (fun c_15 => ?_) (fun c_15 => ?_)
            · skip
              refine lv_aload_n hC.x hC.b dX10_close_124 rfl (lv_at hl 0 rfl) ?_
              refine rget hC hK hR (ct_model G _ _) rfl uin_X10 33 (by decide) TF_X10_235 rfl dX10_close_125 ?_
              refine lv_istore_n (lv' := [(3, .int (s5 35 33)), (0, .ref (G.2.1 35)), (2, .int x2)]) hC.x hC.b dX10_close_128 rfl hl (by decide) rfl (fun ls hl => ?_)
              refine lv_iload_n hC.x hC.b dX10_close_129 rfl (lv_at hl 0 rfl) ?_
              refine lv_aload_n hC.x hC.b dX10_close_130 rfl (lv_at hl 1 rfl) ?_
              refine rget hC hK hR (ct_model G _ _) rfl uin_X10 32 (by decide) TF_X10_105 rfl dX10_close_131 ?_
              have rd_16 : (s5 35 32).toInt = (σ 35 32).toInt := congrArg Int32.toInt (show s5 35 32 = σ 35 32 from hi2_109.2 32 (by first | omega | (dsimp only; omega)))
              refine bi_ge (tgt := 141) (a := (s5 35 33).toInt) (b := (s5 35 32).toInt) hC.x hC.b rfl rfl dX10_close_134 (by decide) (fun c_17 => ?_) (fun c_17 => ?_)
              · skip
                refine lv_aload_n hC.x hC.b dX10_close_141 rfl (lv_at hl 1 rfl) ?_
                refine rget hC hK hR (ct_model G _ _) rfl uin_X10 32 (by decide) TF_X10_105 rfl dX10_close_142 ?_
                have rd_18 : (s5 35 32).toInt = (σ 35 32).toInt := congrArg Int32.toInt (show s5 35 32 = σ 35 32 from hi2_109.2 32 (by first | omega | (dsimp only; omega)))
                refine lv_istore_n (lv' := [(3, .int (s5 35 32)), (0, .ref (G.2.1 35)), (2, .int x2)]) hC.x hC.b dX10_close_145 rfl hl (by decide) rfl (fun ls hl => ?_)
                refine lv_aload_n hC.x hC.b dX10_close_146 rfl (lv_at hl 1 rfl) ?_
                refine lv_dup hC.x hC.b dX10_close_147 rfl ?_
                refine rget hC hK hR (ct_model G _ _) rfl uin_X10 33 (by decide) TF_X10_235 rfl dX10_close_148 ?_
                refine lv_aload_n hC.x hC.b dX10_close_151 rfl (lv_at hl 1 rfl) ?_
                refine rget hC hK hR (ct_model G _ _) rfl uin_X10 33 (by decide) TF_X10_235 rfl dX10_close_152 ?_
                refine bz_ge (tgt := 163) (a := (s5 35 33).toInt) (b := 0) hC.x hC.b rfl rfl dX10_close_155 (by decide) (fun c_19 => ?_) (fun c_19 => ?_)
                · skip
                  refine lv_iload_n hC.x hC.b dX10_close_163 rfl (lv_at hl 0 rfl) ?_
                  refine lv_isub hC.x hC.b dX10_close_164 ?_
                  have pr_20 : ((s5 35 33) - (s5 35 32)).toInt = ((s5 35 33).toInt - (s5 35 32).toInt) := subI rfl rfl (by omega) (by omega)
                  refine rputi hC hK hG hR hS (ct_model G _ _) rfl uin_X10 tyX10 tyX10_ok nmX10 33 (by decide) TF_X10_235 rfl (Or.inl rfl) (Nat.le_of_ble_eq_true rfl) rfl (ct_model G _ _) dX10_close_165 (fun s_22 es_21 H locs hR hS => ?_)
                  refine lv_aload_n hC.x hC.b dX10_close_168 rfl (lv_at hl 1 rfl) ?_
                  refine rget hC hK hR (ct_model G _ _) rfl uin_X10 26 (by decide) TF_X10_89 rfl dX10_close_169 ?_
                  refine lv_aload_n hC.x hC.b dX10_close_172 rfl (lv_at hl 1 rfl) ?_
                  refine rget hC hK hR (ct_model G _ _) rfl uin_X10 29 (by decide) TF_X10_137 rfl dX10_close_173 ?_
                  have rd_23 : (s_22 35 29).toInt = (s5 35 29).toInt := congrArg Int32.toInt (show s_22 35 29 = s5 35 29 from (by rw [es_21]; exact up2_n (by omega)))
                  refine lv_aload_n hC.x hC.b dX10_close_176 rfl (lv_at hl 1 rfl) ?_
                  refine rget hC hK hR (ct_model G _ _) rfl uin_X10 33 (by decide) TF_X10_235 rfl dX10_close_177 ?_
                  have rd_24 : (s_22 35 33).toInt = ((s5 35 33) - (s5 35 32)).toInt := congrArg Int32.toInt (show s_22 35 33 = ((s5 35 33) - (s5 35 32)) from (by rw [es_21]; exact up2_s))
                  refine ast hC hK hG hR hS (fun _ => ct_m_offs G _ _) rfl (by omega) (by omega) rfl dX10_close_180 (fun s_25 es_26 H locs hR hS => ?_)
                  refine lv_aload_n hC.x hC.b dX10_close_181 rfl (lv_at hl 1 rfl) ?_
                  refine lv_dup hC.x hC.b dX10_close_182 rfl ?_
                  refine rget hC hK hR (ct_model G _ _) rfl uin_X10 29 (by decide) TF_X10_137 rfl dX10_close_183 ?_
                  have rd_27 : (s_25 35 29).toInt = (s5 35 29).toInt := congrArg Int32.toInt (Eq.trans (show s_25 35 29 = s_22 35 29 from (by rw [es_26]; exact up2_o (by omega))) (show s_22 35 29 = s5 35 29 from (by rw [es_21]; exact up2_n (by omega))))
                  refine lv_iconst (v := 1) hC.x hC.b dX10_close_186 (by decide) ?_
                  refine lv_iadd hC.x hC.b dX10_close_187 ?_
                  have pr_28 : ((s_25 35 29) + (1 : Int32)).toInt = ((s_25 35 29).toInt + 1) := addI rfl rfl (by omega) (by omega)
                  refine rputi hC hK hG hR hS (ct_model G _ _) rfl uin_X10 tyX10 tyX10_ok nmX10 29 (by decide) TF_X10_137 rfl (Or.inl rfl) (Nat.le_of_ble_eq_true rfl) rfl (ct_model G _ _) dX10_close_188 (fun s_30 es_29 H locs hR hS => ?_)
                  refine lv_iload_n hC.x hC.b dX10_close_191 rfl (lv_at hl 2 rfl) ?_
                  have rd_31 : (s_30 35 29).toInt = ((s_25 35 29) + (1 : Int32)).toInt := congrArg Int32.toInt (show s_30 35 29 = ((s_25 35 29) + (1 : Int32)) from (by rw [es_29]; exact up2_s))
                  have rd_32 : (s_30 35 33).toInt = ((s5 35 33) - (s5 35 32)).toInt := congrArg Int32.toInt (Eq.trans (show s_30 35 33 = s_25 35 33 from (by rw [es_29]; exact up2_n (by omega))) (Eq.trans (show s_25 35 33 = s_22 35 33 from (by rw [es_26]; exact up2_o (by omega))) (show s_22 35 33 = ((s5 35 33) - (s5 35 32)) from (by rw [es_21]; exact up2_s))))
                  exact reti hC hK hR hS (by first | exact Or.inl (⟨by subst es_29; subst es_26; subst es_21; (first | rfl | omega), by exact (by rw [es_29]; exact MRel.upm ((by rw [es_26]; exact MRel.up ((by rw [es_21]; exact MRel.upm (hi2_109) (by first | omega | (dsimp only; omega)))) (by omega) (by first | omega | (dsimp only; omega)))) (by first | omega | (dsimp only; omega))), by subst es_29; subst es_26; subst es_21; (first | omega | assumption), by subst es_29; subst es_26; subst es_21; (rfl)⟩) | exact Or.inr ((⟨by exact (by rw [es_29]; exact MRel.upm ((by rw [es_26]; exact MRel.up ((by rw [es_21]; exact MRel.upm (hi2_109) (by first | omega | (dsimp only; omega)))) (by omega) (by first | omega | (dsimp only; omega)))) (by first | omega | (dsimp only; omega))), by subst es_29; subst es_26; subst es_21; (first | omega | assumption), by exact (by rw [es_29]; exact KM.u35 (by rw [es_26]; exact KM.up (by rw [es_21]; exact KM.u35 hi0_109 (by omega)) (by omega)) (by omega)), by first | omega | (dsimp only; omega), by first | omega | (dsimp only; omega)⟩)) | exact False.elim (by omega)) dX10_close_192
                · skip
                  refine lv_iload_n hC.x hC.b dX10_close_158 rfl (lv_at hl 0 rfl) ?_
                  refine lv_ineg hC.x hC.b dX10_close_159 ?_
                  have pr_33 : (-(s5 35 32)).toInt = (-((s5 35 32).toInt)) := negI rfl (by omega)
                  refine lv_goto (tgt := 164) hC.x hC.b dX10_close_160 (by decide) ?_
                  refine lv_isub hC.x hC.b dX10_close_164 ?_
                  have pr_34 : ((s5 35 33) - (-(s5 35 32))).toInt = ((s5 35 33).toInt - (-((s5 35 32).toInt))) := subI rfl pr_33 (by omega) (by omega)
                  refine rputi hC hK hG hR hS (ct_model G _ _) rfl uin_X10 tyX10 tyX10_ok nmX10 33 (by decide) TF_X10_235 rfl (Or.inl rfl) (Nat.le_of_ble_eq_true rfl) rfl (ct_model G _ _) dX10_close_165 (fun s_36 es_35 H locs hR hS => ?_)
                  refine lv_aload_n hC.x hC.b dX10_close_168 rfl (lv_at hl 1 rfl) ?_
                  refine rget hC hK hR (ct_model G _ _) rfl uin_X10 26 (by decide) TF_X10_89 rfl dX10_close_169 ?_
                  refine lv_aload_n hC.x hC.b dX10_close_172 rfl (lv_at hl 1 rfl) ?_
                  refine rget hC hK hR (ct_model G _ _) rfl uin_X10 29 (by decide) TF_X10_137 rfl dX10_close_173 ?_
                  have rd_37 : (s_36 35 29).toInt = (s5 35 29).toInt := congrArg Int32.toInt (show s_36 35 29 = s5 35 29 from (by rw [es_35]; exact up2_n (by omega)))
                  refine lv_aload_n hC.x hC.b dX10_close_176 rfl (lv_at hl 1 rfl) ?_
                  refine rget hC hK hR (ct_model G _ _) rfl uin_X10 33 (by decide) TF_X10_235 rfl dX10_close_177 ?_
                  have rd_38 : (s_36 35 33).toInt = ((s5 35 33) - (-(s5 35 32))).toInt := congrArg Int32.toInt (show s_36 35 33 = ((s5 35 33) - (-(s5 35 32))) from (by rw [es_35]; exact up2_s))
                  refine ast hC hK hG hR hS (fun _ => ct_m_offs G _ _) rfl (by omega) (by omega) rfl dX10_close_180 (fun s_39 es_40 H locs hR hS => ?_)
                  refine lv_aload_n hC.x hC.b dX10_close_181 rfl (lv_at hl 1 rfl) ?_
                  refine lv_dup hC.x hC.b dX10_close_182 rfl ?_
                  refine rget hC hK hR (ct_model G _ _) rfl uin_X10 29 (by decide) TF_X10_137 rfl dX10_close_183 ?_
                  have rd_41 : (s_39 35 29).toInt = (s5 35 29).toInt := congrArg Int32.toInt (Eq.trans (show s_39 35 29 = s_36 35 29 from (by rw [es_40]; exact up2_o (by omega))) (show s_36 35 29 = s5 35 29 from (by rw [es_35]; exact up2_n (by omega))))
                  refine lv_iconst (v := 1) hC.x hC.b dX10_close_186 (by decide) ?_
                  refine lv_iadd hC.x hC.b dX10_close_187 ?_
                  have pr_42 : ((s_39 35 29) + (1 : Int32)).toInt = ((s_39 35 29).toInt + 1) := addI rfl rfl (by omega) (by omega)
                  refine rputi hC hK hG hR hS (ct_model G _ _) rfl uin_X10 tyX10 tyX10_ok nmX10 29 (by decide) TF_X10_137 rfl (Or.inl rfl) (Nat.le_of_ble_eq_true rfl) rfl (ct_model G _ _) dX10_close_188 (fun s_44 es_43 H locs hR hS => ?_)
                  refine lv_iload_n hC.x hC.b dX10_close_191 rfl (lv_at hl 2 rfl) ?_
                  have rd_45 : (s_44 35 29).toInt = ((s_39 35 29) + (1 : Int32)).toInt := congrArg Int32.toInt (show s_44 35 29 = ((s_39 35 29) + (1 : Int32)) from (by rw [es_43]; exact up2_s))
                  have rd_46 : (s_44 35 33).toInt = ((s5 35 33) - (-(s5 35 32))).toInt := congrArg Int32.toInt (Eq.trans (show s_44 35 33 = s_39 35 33 from (by rw [es_43]; exact up2_n (by omega))) (Eq.trans (show s_39 35 33 = s_36 35 33 from (by rw [es_40]; exact up2_o (by omega))) (show s_36 35 33 = ((s5 35 33) - (-(s5 35 32))) from (by rw [es_35]; exact up2_s))))
                  exact reti hC hK hR hS (by first | exact Or.inl (⟨by subst es_43; subst es_40; subst es_35; (first | rfl | omega), by exact (by rw [es_43]; exact MRel.upm ((by rw [es_40]; exact MRel.up ((by rw [es_35]; exact MRel.upm (hi2_109) (by first | omega | (dsimp only; omega)))) (by omega) (by first | omega | (dsimp only; omega)))) (by first | omega | (dsimp only; omega))), by subst es_43; subst es_40; subst es_35; (first | omega | assumption), by subst es_43; subst es_40; subst es_35; (rfl)⟩) | exact Or.inr ((⟨by exact (by rw [es_43]; exact MRel.upm ((by rw [es_40]; exact MRel.up ((by rw [es_35]; exact MRel.upm (hi2_109) (by first | omega | (dsimp only; omega)))) (by omega) (by first | omega | (dsimp only; omega)))) (by first | omega | (dsimp only; omega))), by subst es_43; subst es_40; subst es_35; (first | omega | assumption), by exact (by rw [es_43]; exact KM.u35 (by rw [es_40]; exact KM.up (by rw [es_35]; exact KM.u35 hi0_109 (by omega)) (by omega)) (by omega)), by first | omega | (dsimp only; omega), by first | omega | (dsimp only; omega)⟩)) | exact False.elim (by omega)) dX10_close_192
              · skip
                refine lv_iload_n hC.x hC.b dX10_close_137 rfl (lv_at hl 0 rfl) ?_
                refine lv_goto (tgt := 145) hC.x hC.b dX10_close_138 (by decide) ?_
                refine lv_istore_n (lv' := [(3, .int (s5 35 33)), (0, .ref (G.2.1 35)), (2, .int x2)]) hC.x hC.b dX10_close_145 rfl hl (by decide) rfl (fun ls hl => ?_)
                refine lv_aload_n hC.x hC.b dX10_close_146 rfl (lv_at hl 1 rfl) ?_
                refine lv_dup hC.x hC.b dX10_close_147 rfl ?_
                refine rget hC hK hR (ct_model G _ _) rfl uin_X10 33 (by decide) TF_X10_235 rfl dX10_close_148 ?_
                refine lv_aload_n hC.x hC.b dX10_close_151 rfl (lv_at hl 1 rfl) ?_
                refine rget hC hK hR (ct_model G _ _) rfl uin_X10 33 (by decide) TF_X10_235 rfl dX10_close_152 ?_
                refine bz_ge (tgt := 163) (a := (s5 35 33).toInt) (b := 0) hC.x hC.b rfl rfl dX10_close_155 (by decide) (fun c_47 => ?_) (fun c_47 => ?_)
                · skip
                  refine lv_iload_n hC.x hC.b dX10_close_163 rfl (lv_at hl 0 rfl) ?_
                  refine lv_isub hC.x hC.b dX10_close_164 ?_
                  have pr_48 : ((s5 35 33) - (s5 35 33)).toInt = ((s5 35 33).toInt - (s5 35 33).toInt) := subI rfl rfl (by omega) (by omega)
                  refine rputi hC hK hG hR hS (ct_model G _ _) rfl uin_X10 tyX10 tyX10_ok nmX10 33 (by decide) TF_X10_235 rfl (Or.inl rfl) (Nat.le_of_ble_eq_true rfl) rfl (ct_model G _ _) dX10_close_165 (fun s_50 es_49 H locs hR hS => ?_)
                  refine lv_aload_n hC.x hC.b dX10_close_168 rfl (lv_at hl 1 rfl) ?_
                  refine rget hC hK hR (ct_model G _ _) rfl uin_X10 26 (by decide) TF_X10_89 rfl dX10_close_169 ?_
                  refine lv_aload_n hC.x hC.b dX10_close_172 rfl (lv_at hl 1 rfl) ?_
                  refine rget hC hK hR (ct_model G _ _) rfl uin_X10 29 (by decide) TF_X10_137 rfl dX10_close_173 ?_
                  have rd_51 : (s_50 35 29).toInt = (s5 35 29).toInt := congrArg Int32.toInt (show s_50 35 29 = s5 35 29 from (by rw [es_49]; exact up2_n (by omega)))
                  refine lv_aload_n hC.x hC.b dX10_close_176 rfl (lv_at hl 1 rfl) ?_
                  refine rget hC hK hR (ct_model G _ _) rfl uin_X10 33 (by decide) TF_X10_235 rfl dX10_close_177 ?_
                  have rd_52 : (s_50 35 33).toInt = ((s5 35 33) - (s5 35 33)).toInt := congrArg Int32.toInt (show s_50 35 33 = ((s5 35 33) - (s5 35 33)) from (by rw [es_49]; exact up2_s))
                  refine ast hC hK hG hR hS (fun _ => ct_m_offs G _ _) rfl (by omega) (by omega) rfl dX10_close_180 (fun s_53 es_54 H locs hR hS => ?_)
                  refine lv_aload_n hC.x hC.b dX10_close_181 rfl (lv_at hl 1 rfl) ?_
                  refine lv_dup hC.x hC.b dX10_close_182 rfl ?_
                  refine rget hC hK hR (ct_model G _ _) rfl uin_X10 29 (by decide) TF_X10_137 rfl dX10_close_183 ?_
                  have rd_55 : (s_53 35 29).toInt = (s5 35 29).toInt := congrArg Int32.toInt (Eq.trans (show s_53 35 29 = s_50 35 29 from (by rw [es_54]; exact up2_o (by omega))) (show s_50 35 29 = s5 35 29 from (by rw [es_49]; exact up2_n (by omega))))
                  refine lv_iconst (v := 1) hC.x hC.b dX10_close_186 (by decide) ?_
                  refine lv_iadd hC.x hC.b dX10_close_187 ?_
                  have pr_56 : ((s_53 35 29) + (1 : Int32)).toInt = ((s_53 35 29).toInt + 1) := addI rfl rfl (by omega) (by omega)
                  refine rputi hC hK hG hR hS (ct_model G _ _) rfl uin_X10 tyX10 tyX10_ok nmX10 29 (by decide) TF_X10_137 rfl (Or.inl rfl) (Nat.le_of_ble_eq_true rfl) rfl (ct_model G _ _) dX10_close_188 (fun s_58 es_57 H locs hR hS => ?_)
                  refine lv_iload_n hC.x hC.b dX10_close_191 rfl (lv_at hl 2 rfl) ?_
                  have rd_59 : (s_58 35 29).toInt = ((s_53 35 29) + (1 : Int32)).toInt := congrArg Int32.toInt (show s_58 35 29 = ((s_53 35 29) + (1 : Int32)) from (by rw [es_57]; exact up2_s))
                  have rd_60 : (s_58 35 33).toInt = ((s5 35 33) - (s5 35 33)).toInt := congrArg Int32.toInt (Eq.trans (show s_58 35 33 = s_53 35 33 from (by rw [es_57]; exact up2_n (by omega))) (Eq.trans (show s_53 35 33 = s_50 35 33 from (by rw [es_54]; exact up2_o (by omega))) (show s_50 35 33 = ((s5 35 33) - (s5 35 33)) from (by rw [es_49]; exact up2_s))))
                  exact reti hC hK hR hS (by first | exact Or.inl (⟨by subst es_57; subst es_54; subst es_49; (first | rfl | omega), by exact (by rw [es_57]; exact MRel.upm ((by rw [es_54]; exact MRel.up ((by rw [es_49]; exact MRel.upm (hi2_109) (by first | omega | (dsimp only; omega)))) (by omega) (by first | omega | (dsimp only; omega)))) (by first | omega | (dsimp only; omega))), by subst es_57; subst es_54; subst es_49; (first | omega | assumption), by subst es_57; subst es_54; subst es_49; (rfl)⟩) | exact Or.inr ((⟨by exact (by rw [es_57]; exact MRel.upm ((by rw [es_54]; exact MRel.up ((by rw [es_49]; exact MRel.upm (hi2_109) (by first | omega | (dsimp only; omega)))) (by omega) (by first | omega | (dsimp only; omega)))) (by first | omega | (dsimp only; omega))), by subst es_57; subst es_54; subst es_49; (first | omega | assumption), by exact (by rw [es_57]; exact KM.u35 (by rw [es_54]; exact KM.up (by rw [es_49]; exact KM.u35 hi0_109 (by omega)) (by omega)) (by omega)), by first | omega | (dsimp only; omega), by first | omega | (dsimp only; omega)⟩)) | exact False.elim (by omega)) dX10_close_192
                · skip
                  refine lv_iload_n hC.x hC.b dX10_close_158 rfl (lv_at hl 0 rfl) ?_
                  refine lv_ineg hC.x hC.b dX10_close_159 ?_
                  have pr_61 : (-(s5 35 33)).toInt = (-((s5 35 33).toInt)) := negI rfl (by omega)
                  refine lv_goto (tgt := 164) hC.x hC.b dX10_close_160 (by decide) ?_
                  refine lv_isub hC.x hC.b dX10_close_164 ?_
                  have pr_62 : ((s5 35 33) - (-(s5 35 33))).toInt = ((s5 35 33).toInt - (-((s5 35 33).toInt))) := subI rfl pr_61 (by omega) (by omega)
                  refine rputi hC hK hG hR hS (ct_model G _ _) rfl uin_X10 tyX10 tyX10_ok nmX10 33 (by decide) TF_X10_235 rfl (Or.inl rfl) (Nat.le_of_ble_eq_true rfl) rfl (ct_model G _ _) dX10_close_165 (fun s_64 es_63 H locs hR hS => ?_)
                  refine lv_aload_n hC.x hC.b dX10_close_168 rfl (lv_at hl 1 rfl) ?_
                  refine rget hC hK hR (ct_model G _ _) rfl uin_X10 26 (by decide) TF_X10_89 rfl dX10_close_169 ?_
                  refine lv_aload_n hC.x hC.b dX10_close_172 rfl (lv_at hl 1 rfl) ?_
                  refine rget hC hK hR (ct_model G _ _) rfl uin_X10 29 (by decide) TF_X10_137 rfl dX10_close_173 ?_
                  have rd_65 : (s_64 35 29).toInt = (s5 35 29).toInt := congrArg Int32.toInt (show s_64 35 29 = s5 35 29 from (by rw [es_63]; exact up2_n (by omega)))
                  refine lv_aload_n hC.x hC.b dX10_close_176 rfl (lv_at hl 1 rfl) ?_
                  refine rget hC hK hR (ct_model G _ _) rfl uin_X10 33 (by decide) TF_X10_235 rfl dX10_close_177 ?_
                  have rd_66 : (s_64 35 33).toInt = ((s5 35 33) - (-(s5 35 33))).toInt := congrArg Int32.toInt (show s_64 35 33 = ((s5 35 33) - (-(s5 35 33))) from (by rw [es_63]; exact up2_s))
                  refine ast hC hK hG hR hS (fun _ => ct_m_offs G _ _) rfl (by omega) (by omega) rfl dX10_close_180 (fun s_67 es_68 H locs hR hS => ?_)
                  refine lv_aload_n hC.x hC.b dX10_close_181 rfl (lv_at hl 1 rfl) ?_
                  refine lv_dup hC.x hC.b dX10_close_182 rfl ?_
                  refine rget hC hK hR (ct_model G _ _) rfl uin_X10 29 (by decide) TF_X10_137 rfl dX10_close_183 ?_
                  have rd_69 : (s_67 35 29).toInt = (s5 35 29).toInt := congrArg Int32.toInt (Eq.trans (show s_67 35 29 = s_64 35 29 from (by rw [es_68]; exact up2_o (by omega))) (show s_64 35 29 = s5 35 29 from (by rw [es_63]; exact up2_n (by omega))))
                  refine lv_iconst (v := 1) hC.x hC.b dX10_close_186 (by decide) ?_
                  refine lv_iadd hC.x hC.b dX10_close_187 ?_
                  have pr_70 : ((s_67 35 29) + (1 : Int32)).toInt = ((s_67 35 29).toInt + 1) := addI rfl rfl (by omega) (by omega)
                  refine rputi hC hK hG hR hS (ct_model G _ _) rfl uin_X10 tyX10 tyX10_ok nmX10 29 (by decide) TF_X10_137 rfl (Or.inl rfl) (Nat.le_of_ble_eq_true rfl) rfl (ct_model G _ _) dX10_close_188 (fun s_72 es_71 H locs hR hS => ?_)
                  refine lv_iload_n hC.x hC.b dX10_close_191 rfl (lv_at hl 2 rfl) ?_
                  have rd_73 : (s_72 35 29).toInt = ((s_67 35 29) + (1 : Int32)).toInt := congrArg Int32.toInt (show s_72 35 29 = ((s_67 35 29) + (1 : Int32)) from (by rw [es_71]; exact up2_s))
                  have rd_74 : (s_72 35 33).toInt = ((s5 35 33) - (-(s5 35 33))).toInt := congrArg Int32.toInt (Eq.trans (show s_72 35 33 = s_67 35 33 from (by rw [es_71]; exact up2_n (by omega))) (Eq.trans (show s_67 35 33 = s_64 35 33 from (by rw [es_68]; exact up2_o (by omega))) (show s_64 35 33 = ((s5 35 33) - (-(s5 35 33))) from (by rw [es_63]; exact up2_s))))
                  exact reti hC hK hR hS (by first | exact Or.inl (⟨by subst es_71; subst es_68; subst es_63; (first | rfl | omega), by exact (by rw [es_71]; exact MRel.upm ((by rw [es_68]; exact MRel.up ((by rw [es_63]; exact MRel.upm (hi2_109) (by first | omega | (dsimp only; omega)))) (by omega) (by first | omega | (dsimp only; omega)))) (by first | omega | (dsimp only; omega))), by subst es_71; subst es_68; subst es_63; (first | omega | assumption), by subst es_71; subst es_68; subst es_63; (rfl)⟩) | exact Or.inr ((⟨by exact (by rw [es_71]; exact MRel.upm ((by rw [es_68]; exact MRel.up ((by rw [es_63]; exact MRel.upm (hi2_109) (by first | omega | (dsimp only; omega)))) (by omega) (by first | omega | (dsimp only; omega)))) (by first | omega | (dsimp only; omega))), by subst es_71; subst es_68; subst es_63; (first | omega | assumption), by exact (by rw [es_71]; exact KM.u35 (by rw [es_68]; exact KM.up (by rw [es_63]; exact KM.u35 hi0_109 (by omega)) (by omega)) (by omega)), by first | omega | (dsimp only; omega), by first | omega | (dsimp only; omega)⟩)) | exact False.elim (by omega)) dX10_close_192
            · skip
              refine lv_aload_n hC.x hC.b dX10_close_116 rfl (lv_at hl 0 rfl) ?_
              refine rget hC hK hR (ct_model G _ _) rfl uin_X10 33 (by decide) TF_X10_235 rfl dX10_close_117 ?_
              refine lv_ineg hC.x hC.b dX10_close_120 ?_
              have pr_75 : (-(s5 35 33)).toInt = (-((s5 35 33).toInt)) := negI rfl (by omega)
              refine lv_goto (tgt := 128) hC.x hC.b dX10_close_121 (by decide) ?_
              refine lv_istore_n (lv' := [(3, .int (-(s5 35 33))), (0, .ref (G.2.1 35)), (2, .int x2)]) hC.x hC.b dX10_close_128 rfl hl (by decide) rfl (fun ls hl => ?_)
              refine lv_iload_n hC.x hC.b dX10_close_129 rfl (lv_at hl 0 rfl) ?_
              refine lv_aload_n hC.x hC.b dX10_close_130 rfl (lv_at hl 1 rfl) ?_
              refine rget hC hK hR (ct_model G _ _) rfl uin_X10 32 (by decide) TF_X10_105 rfl dX10_close_131 ?_
              have rd_76 : (s5 35 32).toInt = (σ 35 32).toInt := congrArg Int32.toInt (show s5 35 32 = σ 35 32 from hi2_109.2 32 (by first | omega | (dsimp only; omega)))
              refine bi_ge (tgt := 141) (a := (-((s5 35 33).toInt))) (b := (s5 35 32).toInt) hC.x hC.b pr_75 rfl dX10_close_134 (by decide) (fun c_77 => ?_) (fun c_77 => ?_)
              · skip
                refine lv_aload_n hC.x hC.b dX10_close_141 rfl (lv_at hl 1 rfl) ?_
                refine rget hC hK hR (ct_model G _ _) rfl uin_X10 32 (by decide) TF_X10_105 rfl dX10_close_142 ?_
                have rd_78 : (s5 35 32).toInt = (σ 35 32).toInt := congrArg Int32.toInt (show s5 35 32 = σ 35 32 from hi2_109.2 32 (by first | omega | (dsimp only; omega)))
                refine lv_istore_n (lv' := [(3, .int (s5 35 32)), (0, .ref (G.2.1 35)), (2, .int x2)]) hC.x hC.b dX10_close_145 rfl hl (by decide) rfl (fun ls hl => ?_)
                refine lv_aload_n hC.x hC.b dX10_close_146 rfl (lv_at hl 1 rfl) ?_
                refine lv_dup hC.x hC.b dX10_close_147 rfl ?_
                refine rget hC hK hR (ct_model G _ _) rfl uin_X10 33 (by decide) TF_X10_235 rfl dX10_close_148 ?_
                refine lv_aload_n hC.x hC.b dX10_close_151 rfl (lv_at hl 1 rfl) ?_
                refine rget hC hK hR (ct_model G _ _) rfl uin_X10 33 (by decide) TF_X10_235 rfl dX10_close_152 ?_
                refine bz_ge (tgt := 163) (a := (s5 35 33).toInt) (b := 0) hC.x hC.b rfl rfl dX10_close_155 (by decide) (fun c_79 => ?_) (fun c_79 => ?_)
                · skip
                  refine lv_iload_n hC.x hC.b dX10_close_163 rfl (lv_at hl 0 rfl) ?_
                  refine lv_isub hC.x hC.b dX10_close_164 ?_
                  have pr_80 : ((s5 35 33) - (s5 35 32)).toInt = ((s5 35 33).toInt - (s5 35 32).toInt) := subI rfl rfl (by omega) (by omega)
                  refine rputi hC hK hG hR hS (ct_model G _ _) rfl uin_X10 tyX10 tyX10_ok nmX10 33 (by decide) TF_X10_235 rfl (Or.inl rfl) (Nat.le_of_ble_eq_true rfl) rfl (ct_model G _ _) dX10_close_165 (fun s_82 es_81 H locs hR hS => ?_)
                  refine lv_aload_n hC.x hC.b dX10_close_168 rfl (lv_at hl 1 rfl) ?_
                  refine rget hC hK hR (ct_model G _ _) rfl uin_X10 26 (by decide) TF_X10_89 rfl dX10_close_169 ?_
                  refine lv_aload_n hC.x hC.b dX10_close_172 rfl (lv_at hl 1 rfl) ?_
                  refine rget hC hK hR (ct_model G _ _) rfl uin_X10 29 (by decide) TF_X10_137 rfl dX10_close_173 ?_
                  have rd_83 : (s_82 35 29).toInt = (s5 35 29).toInt := congrArg Int32.toInt (show s_82 35 29 = s5 35 29 from (by rw [es_81]; exact up2_n (by omega)))
                  refine lv_aload_n hC.x hC.b dX10_close_176 rfl (lv_at hl 1 rfl) ?_
                  refine rget hC hK hR (ct_model G _ _) rfl uin_X10 33 (by decide) TF_X10_235 rfl dX10_close_177 ?_
                  have rd_84 : (s_82 35 33).toInt = ((s5 35 33) - (s5 35 32)).toInt := congrArg Int32.toInt (show s_82 35 33 = ((s5 35 33) - (s5 35 32)) from (by rw [es_81]; exact up2_s))
                  refine ast hC hK hG hR hS (fun _ => ct_m_offs G _ _) rfl (by omega) (by omega) rfl dX10_close_180 (fun s_85 es_86 H locs hR hS => ?_)
                  refine lv_aload_n hC.x hC.b dX10_close_181 rfl (lv_at hl 1 rfl) ?_
                  refine lv_dup hC.x hC.b dX10_close_182 rfl ?_
                  refine rget hC hK hR (ct_model G _ _) rfl uin_X10 29 (by decide) TF_X10_137 rfl dX10_close_183 ?_
                  have rd_87 : (s_85 35 29).toInt = (s5 35 29).toInt := congrArg Int32.toInt (Eq.trans (show s_85 35 29 = s_82 35 29 from (by rw [es_86]; exact up2_o (by omega))) (show s_82 35 29 = s5 35 29 from (by rw [es_81]; exact up2_n (by omega))))
                  refine lv_iconst (v := 1) hC.x hC.b dX10_close_186 (by decide) ?_
                  refine lv_iadd hC.x hC.b dX10_close_187 ?_
                  have pr_88 : ((s_85 35 29) + (1 : Int32)).toInt = ((s_85 35 29).toInt + 1) := addI rfl rfl (by omega) (by omega)
                  refine rputi hC hK hG hR hS (ct_model G _ _) rfl uin_X10 tyX10 tyX10_ok nmX10 29 (by decide) TF_X10_137 rfl (Or.inl rfl) (Nat.le_of_ble_eq_true rfl) rfl (ct_model G _ _) dX10_close_188 (fun s_90 es_89 H locs hR hS => ?_)
                  refine lv_iload_n hC.x hC.b dX10_close_191 rfl (lv_at hl 2 rfl) ?_
                  have rd_91 : (s_90 35 29).toInt = ((s_85 35 29) + (1 : Int32)).toInt := congrArg Int32.toInt (show s_90 35 29 = ((s_85 35 29) + (1 : Int32)) from (by rw [es_89]; exact up2_s))
                  have rd_92 : (s_90 35 33).toInt = ((s5 35 33) - (s5 35 32)).toInt := congrArg Int32.toInt (Eq.trans (show s_90 35 33 = s_85 35 33 from (by rw [es_89]; exact up2_n (by omega))) (Eq.trans (show s_85 35 33 = s_82 35 33 from (by rw [es_86]; exact up2_o (by omega))) (show s_82 35 33 = ((s5 35 33) - (s5 35 32)) from (by rw [es_81]; exact up2_s))))
                  exact reti hC hK hR hS (by first | exact Or.inl (⟨by subst es_89; subst es_86; subst es_81; (first | rfl | omega), by exact (by rw [es_89]; exact MRel.upm ((by rw [es_86]; exact MRel.up ((by rw [es_81]; exact MRel.upm (hi2_109) (by first | omega | (dsimp only; omega)))) (by omega) (by first | omega | (dsimp only; omega)))) (by first | omega | (dsimp only; omega))), by subst es_89; subst es_86; subst es_81; (first | omega | assumption), by subst es_89; subst es_86; subst es_81; (rfl)⟩) | exact Or.inr ((⟨by exact (by rw [es_89]; exact MRel.upm ((by rw [es_86]; exact MRel.up ((by rw [es_81]; exact MRel.upm (hi2_109) (by first | omega | (dsimp only; omega)))) (by omega) (by first | omega | (dsimp only; omega)))) (by first | omega | (dsimp only; omega))), by subst es_89; subst es_86; subst es_81; (first | omega | assumption), by exact (by rw [es_89]; exact KM.u35 (by rw [es_86]; exact KM.up (by rw [es_81]; exact KM.u35 hi0_109 (by omega)) (by omega)) (by omega)), by first | omega | (dsimp only; omega), by first | omega | (dsimp only; omega)⟩)) | exact False.elim (by omega)) dX10_close_192
                · skip
                  refine lv_iload_n hC.x hC.b dX10_close_158 rfl (lv_at hl 0 rfl) ?_
                  refine lv_ineg hC.x hC.b dX10_close_159 ?_
                  have pr_93 : (-(s5 35 32)).toInt = (-((s5 35 32).toInt)) := negI rfl (by omega)
                  refine lv_goto (tgt := 164) hC.x hC.b dX10_close_160 (by decide) ?_
                  refine lv_isub hC.x hC.b dX10_close_164 ?_
                  have pr_94 : ((s5 35 33) - (-(s5 35 32))).toInt = ((s5 35 33).toInt - (-((s5 35 32).toInt))) := subI rfl pr_93 (by omega) (by omega)
                  refine rputi hC hK hG hR hS (ct_model G _ _) rfl uin_X10 tyX10 tyX10_ok nmX10 33 (by decide) TF_X10_235 rfl (Or.inl rfl) (Nat.le_of_ble_eq_true rfl) rfl (ct_model G _ _) dX10_close_165 (fun s_96 es_95 H locs hR hS => ?_)
                  refine lv_aload_n hC.x hC.b dX10_close_168 rfl (lv_at hl 1 rfl) ?_
                  refine rget hC hK hR (ct_model G _ _) rfl uin_X10 26 (by decide) TF_X10_89 rfl dX10_close_169 ?_
                  refine lv_aload_n hC.x hC.b dX10_close_172 rfl (lv_at hl 1 rfl) ?_
                  refine rget hC hK hR (ct_model G _ _) rfl uin_X10 29 (by decide) TF_X10_137 rfl dX10_close_173 ?_
                  have rd_97 : (s_96 35 29).toInt = (s5 35 29).toInt := congrArg Int32.toInt (show s_96 35 29 = s5 35 29 from (by rw [es_95]; exact up2_n (by omega)))
                  refine lv_aload_n hC.x hC.b dX10_close_176 rfl (lv_at hl 1 rfl) ?_
                  refine rget hC hK hR (ct_model G _ _) rfl uin_X10 33 (by decide) TF_X10_235 rfl dX10_close_177 ?_
                  have rd_98 : (s_96 35 33).toInt = ((s5 35 33) - (-(s5 35 32))).toInt := congrArg Int32.toInt (show s_96 35 33 = ((s5 35 33) - (-(s5 35 32))) from (by rw [es_95]; exact up2_s))
                  refine ast hC hK hG hR hS (fun _ => ct_m_offs G _ _) rfl (by omega) (by omega) rfl dX10_close_180 (fun s_99 es_100 H locs hR hS => ?_)
                  refine lv_aload_n hC.x hC.b dX10_close_181 rfl (lv_at hl 1 rfl) ?_
                  refine lv_dup hC.x hC.b dX10_close_182 rfl ?_
                  refine rget hC hK hR (ct_model G _ _) rfl uin_X10 29 (by decide) TF_X10_137 rfl dX10_close_183 ?_
                  have rd_101 : (s_99 35 29).toInt = (s5 35 29).toInt := congrArg Int32.toInt (Eq.trans (show s_99 35 29 = s_96 35 29 from (by rw [es_100]; exact up2_o (by omega))) (show s_96 35 29 = s5 35 29 from (by rw [es_95]; exact up2_n (by omega))))
                  refine lv_iconst (v := 1) hC.x hC.b dX10_close_186 (by decide) ?_
                  refine lv_iadd hC.x hC.b dX10_close_187 ?_
                  have pr_102 : ((s_99 35 29) + (1 : Int32)).toInt = ((s_99 35 29).toInt + 1) := addI rfl rfl (by omega) (by omega)
                  refine rputi hC hK hG hR hS (ct_model G _ _) rfl uin_X10 tyX10 tyX10_ok nmX10 29 (by decide) TF_X10_137 rfl (Or.inl rfl) (Nat.le_of_ble_eq_true rfl) rfl (ct_model G _ _) dX10_close_188 (fun s_104 es_103 H locs hR hS => ?_)
                  refine lv_iload_n hC.x hC.b dX10_close_191 rfl (lv_at hl 2 rfl) ?_
                  have rd_105 : (s_104 35 29).toInt = ((s_99 35 29) + (1 : Int32)).toInt := congrArg Int32.toInt (show s_104 35 29 = ((s_99 35 29) + (1 : Int32)) from (by rw [es_103]; exact up2_s))
                  have rd_106 : (s_104 35 33).toInt = ((s5 35 33) - (-(s5 35 32))).toInt := congrArg Int32.toInt (Eq.trans (show s_104 35 33 = s_99 35 33 from (by rw [es_103]; exact up2_n (by omega))) (Eq.trans (show s_99 35 33 = s_96 35 33 from (by rw [es_100]; exact up2_o (by omega))) (show s_96 35 33 = ((s5 35 33) - (-(s5 35 32))) from (by rw [es_95]; exact up2_s))))
                  exact reti hC hK hR hS (by first | exact Or.inl (⟨by subst es_103; subst es_100; subst es_95; (first | rfl | omega), by exact (by rw [es_103]; exact MRel.upm ((by rw [es_100]; exact MRel.up ((by rw [es_95]; exact MRel.upm (hi2_109) (by first | omega | (dsimp only; omega)))) (by omega) (by first | omega | (dsimp only; omega)))) (by first | omega | (dsimp only; omega))), by subst es_103; subst es_100; subst es_95; (first | omega | assumption), by subst es_103; subst es_100; subst es_95; (rfl)⟩) | exact Or.inr ((⟨by exact (by rw [es_103]; exact MRel.upm ((by rw [es_100]; exact MRel.up ((by rw [es_95]; exact MRel.upm (hi2_109) (by first | omega | (dsimp only; omega)))) (by omega) (by first | omega | (dsimp only; omega)))) (by first | omega | (dsimp only; omega))), by subst es_103; subst es_100; subst es_95; (first | omega | assumption), by exact (by rw [es_103]; exact KM.u35 (by rw [es_100]; exact KM.up (by rw [es_95]; exact KM.u35 hi0_109 (by omega)) (by omega)) (by omega)), by first | omega | (dsimp only; omega), by first | omega | (dsimp only; omega)⟩)) | exact False.elim (by omega)) dX10_close_192
              · skip
                refine lv_iload_n hC.x hC.b dX10_close_137 rfl (lv_at hl 0 rfl) ?_
                refine lv_goto (tgt := 145) hC.x hC.b dX10_close_138 (by decide) ?_
                refine lv_istore_n (lv' := [(3, .int (-(s5 35 33))), (0, .ref (G.2.1 35)), (2, .int x2)]) hC.x hC.b dX10_close_145 rfl hl (by decide) rfl (fun ls hl => ?_)
                refine lv_aload_n hC.x hC.b dX10_close_146 rfl (lv_at hl 1 rfl) ?_
                refine lv_dup hC.x hC.b dX10_close_147 rfl ?_
                refine rget hC hK hR (ct_model G _ _) rfl uin_X10 33 (by decide) TF_X10_235 rfl dX10_close_148 ?_
                refine lv_aload_n hC.x hC.b dX10_close_151 rfl (lv_at hl 1 rfl) ?_
                refine rget hC hK hR (ct_model G _ _) rfl uin_X10 33 (by decide) TF_X10_235 rfl dX10_close_152 ?_
                refine bz_ge (tgt := 163) (a := (s5 35 33).toInt) (b := 0) hC.x hC.b rfl rfl dX10_close_155 (by decide) (fun c_107 => ?_) (fun c_107 => ?_)
                · skip
                  refine lv_iload_n hC.x hC.b dX10_close_163 rfl (lv_at hl 0 rfl) ?_
                  refine lv_isub hC.x hC.b dX10_close_164 ?_
                  have pr_108 : ((s5 35 33) - (-(s5 35 33))).toInt = ((s5 35 33).toInt - (-((s5 35 33).toInt))) := subI rfl pr_75 (by omega) (by omega)
                  refine rputi hC hK hG hR hS (ct_model G _ _) rfl uin_X10 tyX10 tyX10_ok nmX10 33 (by decide) TF_X10_235 rfl (Or.inl rfl) (Nat.le_of_ble_eq_true rfl) rfl (ct_model G _ _) dX10_close_165 (fun s_110 es_109 H locs hR hS => ?_)
                  refine lv_aload_n hC.x hC.b dX10_close_168 rfl (lv_at hl 1 rfl) ?_
                  refine rget hC hK hR (ct_model G _ _) rfl uin_X10 26 (by decide) TF_X10_89 rfl dX10_close_169 ?_
                  refine lv_aload_n hC.x hC.b dX10_close_172 rfl (lv_at hl 1 rfl) ?_
                  refine rget hC hK hR (ct_model G _ _) rfl uin_X10 29 (by decide) TF_X10_137 rfl dX10_close_173 ?_
                  have rd_111 : (s_110 35 29).toInt = (s5 35 29).toInt := congrArg Int32.toInt (show s_110 35 29 = s5 35 29 from (by rw [es_109]; exact up2_n (by omega)))
                  refine lv_aload_n hC.x hC.b dX10_close_176 rfl (lv_at hl 1 rfl) ?_
                  refine rget hC hK hR (ct_model G _ _) rfl uin_X10 33 (by decide) TF_X10_235 rfl dX10_close_177 ?_
                  have rd_112 : (s_110 35 33).toInt = ((s5 35 33) - (-(s5 35 33))).toInt := congrArg Int32.toInt (show s_110 35 33 = ((s5 35 33) - (-(s5 35 33))) from (by rw [es_109]; exact up2_s))
                  refine ast hC hK hG hR hS (fun _ => ct_m_offs G _ _) rfl (by omega) (by omega) rfl dX10_close_180 (fun s_113 es_114 H locs hR hS => ?_)
                  refine lv_aload_n hC.x hC.b dX10_close_181 rfl (lv_at hl 1 rfl) ?_
                  refine lv_dup hC.x hC.b dX10_close_182 rfl ?_
                  refine rget hC hK hR (ct_model G _ _) rfl uin_X10 29 (by decide) TF_X10_137 rfl dX10_close_183 ?_
                  have rd_115 : (s_113 35 29).toInt = (s5 35 29).toInt := congrArg Int32.toInt (Eq.trans (show s_113 35 29 = s_110 35 29 from (by rw [es_114]; exact up2_o (by omega))) (show s_110 35 29 = s5 35 29 from (by rw [es_109]; exact up2_n (by omega))))
                  refine lv_iconst (v := 1) hC.x hC.b dX10_close_186 (by decide) ?_
                  refine lv_iadd hC.x hC.b dX10_close_187 ?_
                  have pr_116 : ((s_113 35 29) + (1 : Int32)).toInt = ((s_113 35 29).toInt + 1) := addI rfl rfl (by omega) (by omega)
                  refine rputi hC hK hG hR hS (ct_model G _ _) rfl uin_X10 tyX10 tyX10_ok nmX10 29 (by decide) TF_X10_137 rfl (Or.inl rfl) (Nat.le_of_ble_eq_true rfl) rfl (ct_model G _ _) dX10_close_188 (fun s_118 es_117 H locs hR hS => ?_)
                  refine lv_iload_n hC.x hC.b dX10_close_191 rfl (lv_at hl 2 rfl) ?_
                  have rd_119 : (s_118 35 29).toInt = ((s_113 35 29) + (1 : Int32)).toInt := congrArg Int32.toInt (show s_118 35 29 = ((s_113 35 29) + (1 : Int32)) from (by rw [es_117]; exact up2_s))
                  have rd_120 : (s_118 35 33).toInt = ((s5 35 33) - (-(s5 35 33))).toInt := congrArg Int32.toInt (Eq.trans (show s_118 35 33 = s_113 35 33 from (by rw [es_117]; exact up2_n (by omega))) (Eq.trans (show s_113 35 33 = s_110 35 33 from (by rw [es_114]; exact up2_o (by omega))) (show s_110 35 33 = ((s5 35 33) - (-(s5 35 33))) from (by rw [es_109]; exact up2_s))))
                  exact reti hC hK hR hS (by first | exact Or.inl (⟨by subst es_117; subst es_114; subst es_109; (first | rfl | omega), by exact (by rw [es_117]; exact MRel.upm ((by rw [es_114]; exact MRel.up ((by rw [es_109]; exact MRel.upm (hi2_109) (by first | omega | (dsimp only; omega)))) (by omega) (by first | omega | (dsimp only; omega)))) (by first | omega | (dsimp only; omega))), by subst es_117; subst es_114; subst es_109; (first | omega | assumption), by subst es_117; subst es_114; subst es_109; (rfl)⟩) | exact Or.inr ((⟨by exact (by rw [es_117]; exact MRel.upm ((by rw [es_114]; exact MRel.up ((by rw [es_109]; exact MRel.upm (hi2_109) (by first | omega | (dsimp only; omega)))) (by omega) (by first | omega | (dsimp only; omega)))) (by first | omega | (dsimp only; omega))), by subst es_117; subst es_114; subst es_109; (first | omega | assumption), by exact (by rw [es_117]; exact KM.u35 (by rw [es_114]; exact KM.up (by rw [es_109]; exact KM.u35 hi0_109 (by omega)) (by omega)) (by omega)), by first | omega | (dsimp only; omega), by first | omega | (dsimp only; omega)⟩)) | exact False.elim (by omega)) dX10_close_192
                · skip
                  refine lv_iload_n hC.x hC.b dX10_close_158 rfl (lv_at hl 0 rfl) ?_
                  refine lv_ineg hC.x hC.b dX10_close_159 ?_
                  have pr_121 : (-(-(s5 35 33))).toInt = (-(-((s5 35 33).toInt))) := negI pr_75 (by omega)
                  refine lv_goto (tgt := 164) hC.x hC.b dX10_close_160 (by decide) ?_
                  refine lv_isub hC.x hC.b dX10_close_164 ?_
                  have pr_122 : ((s5 35 33) - (-(-(s5 35 33)))).toInt = ((s5 35 33).toInt - (-(-((s5 35 33).toInt)))) := subI rfl pr_121 (by omega) (by omega)
                  refine rputi hC hK hG hR hS (ct_model G _ _) rfl uin_X10 tyX10 tyX10_ok nmX10 33 (by decide) TF_X10_235 rfl (Or.inl rfl) (Nat.le_of_ble_eq_true rfl) rfl (ct_model G _ _) dX10_close_165 (fun s_124 es_123 H locs hR hS => ?_)
                  refine lv_aload_n hC.x hC.b dX10_close_168 rfl (lv_at hl 1 rfl) ?_
                  refine rget hC hK hR (ct_model G _ _) rfl uin_X10 26 (by decide) TF_X10_89 rfl dX10_close_169 ?_
                  refine lv_aload_n hC.x hC.b dX10_close_172 rfl (lv_at hl 1 rfl) ?_
                  refine rget hC hK hR (ct_model G _ _) rfl uin_X10 29 (by decide) TF_X10_137 rfl dX10_close_173 ?_
                  have rd_125 : (s_124 35 29).toInt = (s5 35 29).toInt := congrArg Int32.toInt (show s_124 35 29 = s5 35 29 from (by rw [es_123]; exact up2_n (by omega)))
                  refine lv_aload_n hC.x hC.b dX10_close_176 rfl (lv_at hl 1 rfl) ?_
                  refine rget hC hK hR (ct_model G _ _) rfl uin_X10 33 (by decide) TF_X10_235 rfl dX10_close_177 ?_
                  have rd_126 : (s_124 35 33).toInt = ((s5 35 33) - (-(-(s5 35 33)))).toInt := congrArg Int32.toInt (show s_124 35 33 = ((s5 35 33) - (-(-(s5 35 33)))) from (by rw [es_123]; exact up2_s))
                  refine ast hC hK hG hR hS (fun _ => ct_m_offs G _ _) rfl (by omega) (by omega) rfl dX10_close_180 (fun s_127 es_128 H locs hR hS => ?_)
                  refine lv_aload_n hC.x hC.b dX10_close_181 rfl (lv_at hl 1 rfl) ?_
                  refine lv_dup hC.x hC.b dX10_close_182 rfl ?_
                  refine rget hC hK hR (ct_model G _ _) rfl uin_X10 29 (by decide) TF_X10_137 rfl dX10_close_183 ?_
                  have rd_129 : (s_127 35 29).toInt = (s5 35 29).toInt := congrArg Int32.toInt (Eq.trans (show s_127 35 29 = s_124 35 29 from (by rw [es_128]; exact up2_o (by omega))) (show s_124 35 29 = s5 35 29 from (by rw [es_123]; exact up2_n (by omega))))
                  refine lv_iconst (v := 1) hC.x hC.b dX10_close_186 (by decide) ?_
                  refine lv_iadd hC.x hC.b dX10_close_187 ?_
                  have pr_130 : ((s_127 35 29) + (1 : Int32)).toInt = ((s_127 35 29).toInt + 1) := addI rfl rfl (by omega) (by omega)
                  refine rputi hC hK hG hR hS (ct_model G _ _) rfl uin_X10 tyX10 tyX10_ok nmX10 29 (by decide) TF_X10_137 rfl (Or.inl rfl) (Nat.le_of_ble_eq_true rfl) rfl (ct_model G _ _) dX10_close_188 (fun s_132 es_131 H locs hR hS => ?_)
                  refine lv_iload_n hC.x hC.b dX10_close_191 rfl (lv_at hl 2 rfl) ?_
                  have rd_133 : (s_132 35 29).toInt = ((s_127 35 29) + (1 : Int32)).toInt := congrArg Int32.toInt (show s_132 35 29 = ((s_127 35 29) + (1 : Int32)) from (by rw [es_131]; exact up2_s))
                  have rd_134 : (s_132 35 33).toInt = ((s5 35 33) - (-(-(s5 35 33)))).toInt := congrArg Int32.toInt (Eq.trans (show s_132 35 33 = s_127 35 33 from (by rw [es_131]; exact up2_n (by omega))) (Eq.trans (show s_127 35 33 = s_124 35 33 from (by rw [es_128]; exact up2_o (by omega))) (show s_124 35 33 = ((s5 35 33) - (-(-(s5 35 33)))) from (by rw [es_123]; exact up2_s))))
                  exact reti hC hK hR hS (by first | exact Or.inl (⟨by subst es_131; subst es_128; subst es_123; (first | rfl | omega), by exact (by rw [es_131]; exact MRel.upm ((by rw [es_128]; exact MRel.up ((by rw [es_123]; exact MRel.upm (hi2_109) (by first | omega | (dsimp only; omega)))) (by omega) (by first | omega | (dsimp only; omega)))) (by first | omega | (dsimp only; omega))), by subst es_131; subst es_128; subst es_123; (first | omega | assumption), by subst es_131; subst es_128; subst es_123; (rfl)⟩) | exact Or.inr ((⟨by exact (by rw [es_131]; exact MRel.upm ((by rw [es_128]; exact MRel.up ((by rw [es_123]; exact MRel.upm (hi2_109) (by first | omega | (dsimp only; omega)))) (by omega) (by first | omega | (dsimp only; omega)))) (by first | omega | (dsimp only; omega))), by subst es_131; subst es_128; subst es_123; (first | omega | assumption), by exact (by rw [es_131]; exact KM.u35 (by rw [es_128]; exact KM.up (by rw [es_123]; exact KM.u35 hi0_109 (by omega)) (by omega)) (by omega)), by first | omega | (dsimp only; omega), by first | omega | (dsimp only; omega)⟩)) | exact False.elim (by omega)) dX10_close_192
          refine lv_iload_n hC.x hC.b dX10_close_94 rfl (lv_at hl 0 rfl) ?_
          refine lv_iconst (v := (-1)) hC.x hC.b dX10_close_95 (by decide) ?_
          refine bi_ne (tgt := 103) (a := v_3.toInt) (b := (-1)) hC.x hC.b rfl rfl dX10_close_96 (by decide) (fun c_135 => ?_) (fun c_135 => ?_)
          · skip
            refine lv_aload_n hC.x hC.b dX10_close_103 rfl (lv_at hl 1 rfl) ?_
            refine lv_iload_n hC.x hC.b dX10_close_104 rfl (lv_at hl 0 rfl) ?_
            have rd_136 : (s_13 35 29).toInt = (s1 35 29).toInt := congrArg Int32.toInt (Eq.trans (show s_13 35 29 = s_9 35 29 from (by rw [es_14]; exact up2_o (by omega))) (Eq.trans (show s_9 35 29 = s_6 35 29 from (by rw [es_10]; exact up2_o (by omega))) (show s_6 35 29 = s1 35 29 from (by rw [es_7]; exact up2_o (by omega)))))
            refine goi (runV (As := [.int v_3]) (rest := []) hC hK hR hl.1 (c_X10_closes l hG s_13 τ v_3 v_3.toInt.toNat rfl (by first | assumption | omega) (by omega) (by exact LnM.fr (S := (fun k => (41 ≤ k ∧ k ≤ 46 ∧ k ≠ 42 ∧ k ≠ 43) ∨ (52 ≤ k ∧ k ≤ 69) ∨ k = 71)) (J := (fun j => j = 29 ∨ j = 33 ∨ j = 37 ∨ j = 41 ∨ j = 43 ∨ j = 44)) (σ1 := s_13) hln (by rw [es_14]; exact MRel.up ((by rw [es_10]; exact MRel.up ((by rw [es_7]; exact MRel.up (hi3_14) (by omega) (by first | omega | (dsimp only; omega)))) (by omega) (by first | omega | (dsimp only; omega)))) (by omega) (by first | omega | (dsimp only; omega))) (by first | omega | (dsimp only; omega)) (by first | omega | (dsimp only; omega)) (by first | omega | (dsimp only; omega))) (by exact ClM.fr (S := (fun k => (41 ≤ k ∧ k ≤ 46 ∧ k ≠ 42 ∧ k ≠ 43) ∨ (52 ≤ k ∧ k ≤ 69) ∨ k = 71)) (J := (fun j => j = 29 ∨ j = 33 ∨ j = 37 ∨ j = 41 ∨ j = 43 ∨ j = 44)) (σ1 := s_13) hcl (by rw [es_14]; exact MRel.up ((by rw [es_10]; exact MRel.up ((by rw [es_7]; exact MRel.up (hi3_14) (by omega) (by first | omega | (dsimp only; omega)))) (by omega) (by first | omega | (dsimp only; omega)))) (by omega) (by first | omega | (dsimp only; omega))) (by first | omega | (dsimp only; omega)) (by first | omega | (dsimp only; omega))) (by exact (by rw [es_14]; exact KM.up (by rw [es_10]; exact KM.up (by rw [es_7]; exact KM.up hi0_14 (by omega)) (by omega)) (by omega)))) (call_b hC.ts TC_X10_closes TN_X10 TM_X10_232 hd_X10_closes ⟨Nat.le_of_ble_eq_true rfl, Nat.le_of_ble_eq_true rfl⟩) TI_X10_closes TS_X10_closes (ct_model G _ _) rfl rfl rfl (Nat.le_of_ble_eq_true rfl) dX10_close_105 ⟨Nat.le_of_ble_eq_true rfl, Nat.le_of_ble_eq_true rfl⟩) hS (fun v_137 s_139 t_140 H locs w_138 hR hS => ?_)
            try dsimp only [po_X10_closes] at w_138
            obtain ⟨f_141, f_142⟩ := w_138
            refine lv_istore_n (lv' := [(2, .int v_137), (1, .int v_3), (0, .ref (G.2.1 35))]) hC.x hC.b dX10_close_108 rfl hl (by decide) rfl (fun ls hl => ?_)
            have rd_143 : (s_139 35 29).toInt = (s1 35 29).toInt := congrArg Int32.toInt (Eq.trans (show s_139 35 29 = s_13 35 29 from f_141.2 29 (by first | omega | (dsimp only; omega))) (Eq.trans (show s_13 35 29 = s_9 35 29 from (by rw [es_14]; exact up2_o (by omega))) (Eq.trans (show s_9 35 29 = s_6 35 29 from (by rw [es_10]; exact up2_o (by omega))) (show s_6 35 29 = s1 35 29 from (by rw [es_7]; exact up2_o (by omega))))))
            have rd_144 : (s_139 35 33).toInt = (s1 35 33).toInt := congrArg Int32.toInt (Eq.trans (show s_139 35 33 = s_13 35 33 from f_141.2 33 (by first | omega | (dsimp only; omega))) (Eq.trans (show s_13 35 33 = s_9 35 33 from (by rw [es_14]; exact up2_o (by omega))) (Eq.trans (show s_9 35 33 = s_6 35 33 from (by rw [es_10]; exact up2_o (by omega))) (show s_6 35 33 = s1 35 33 from (by rw [es_7]; exact up2_o (by omega))))))
            exact L_109 v_137 s_139 t_140 (by exact f_142) (by omega) (MRel.tr (by rw [es_14]; exact MRel.up ((by rw [es_10]; exact MRel.up ((by rw [es_7]; exact MRel.up (hi3_14) (by omega) (by first | omega | (dsimp only; omega)))) (by omega) (by first | omega | (dsimp only; omega)))) (by omega) (by first | omega | (dsimp only; omega))) (MRel.mo f_141 (by intro k q; first | omega | (dsimp only at q ⊢; omega) | exact q.elim) (by intro j q; first | omega | (dsimp only at q ⊢; omega) | exact q.elim))) _ _ _ hR hS (lv_sub hl [2, 0] rfl)
          · skip
            refine lv_iconst (v := 0) hC.x hC.b dX10_close_99 (by decide) ?_
            refine lv_goto (tgt := 108) hC.x hC.b dX10_close_100 (by decide) ?_
            refine lv_istore_n (lv' := [(2, .int (0 : Int32)), (1, .int v_3), (0, .ref (G.2.1 35))]) hC.x hC.b dX10_close_108 rfl hl (by decide) rfl (fun ls hl => ?_)
            have rd_145 : (s_13 35 29).toInt = (s1 35 29).toInt := congrArg Int32.toInt (Eq.trans (show s_13 35 29 = s_9 35 29 from (by rw [es_14]; exact up2_o (by omega))) (Eq.trans (show s_9 35 29 = s_6 35 29 from (by rw [es_10]; exact up2_o (by omega))) (show s_6 35 29 = s1 35 29 from (by rw [es_7]; exact up2_o (by omega)))))
            have rd_146 : (s_13 35 33).toInt = (s1 35 33).toInt := congrArg Int32.toInt (Eq.trans (show s_13 35 33 = s_9 35 33 from (by rw [es_14]; exact up2_o (by omega))) (Eq.trans (show s_9 35 33 = s_6 35 33 from (by rw [es_10]; exact up2_o (by omega))) (show s_6 35 33 = s1 35 33 from (by rw [es_7]; exact up2_o (by omega)))))
            exact L_109 (0 : Int32) s_13 τ (by exact (by rw [es_14]; exact KM.up (by rw [es_10]; exact KM.up (by rw [es_7]; exact KM.up hi0_14 (by omega)) (by omega)) (by omega))) (by omega) (by rw [es_14]; exact MRel.up ((by rw [es_10]; exact MRel.up ((by rw [es_7]; exact MRel.up (hi3_14) (by omega) (by first | omega | (dsimp only; omega)))) (by omega) (by first | omega | (dsimp only; omega)))) (by omega) (by first | omega | (dsimp only; omega))) _ _ _ hR hS (lv_sub hl [2, 0] rfl)
        · skip
          refine lv_aload_n hC.x hC.b dX10_close_20 rfl (lv_at hl 0 rfl) ?_
          refine rget hC hK hR (ct_model G _ _) rfl uin_X10 16 (by decide) TF_X10_59 rfl dX10_close_21 ?_
          refine lv_aload_n hC.x hC.b dX10_close_24 rfl (lv_at hl 0 rfl) ?_
          refine lv_aload_n hC.x hC.b dX10_close_25 rfl (lv_at hl 0 rfl) ?_
          refine rget hC hK hR (ct_model G _ _) rfl uin_X10 29 (by decide) TF_X10_137 rfl dX10_close_26 ?_
          refine lv_iload_n hC.x hC.b dX10_close_29 rfl (lv_at hl 1 rfl) ?_
          have av_147 : (nI n).toInt = (n : Int) := (nI_T n (by omega))
          refine goip (runV (As := [.int (s1 35 29), .int (nI n)]) (rest := [.ref (G.2.1 52)]) hC hK hR hl.1 (c_X10_at l hG s1 τ (s1 35 29) (((s1 35 29).toInt).toNat) (by first | rfl | (rw [show (s1 35 29).toInt = (s1 35 29).toInt from rfl]; done) | (rw [show (s1 35 29).toInt = (s1 35 29).toInt from rfl]; exact rfl)) (nI n) n (by first | rfl | (rw [show (nI n).toInt = (n : Int) from (nI_T n (by omega))]; done) | (rw [show (nI n).toInt = (n : Int) from (nI_T n (by omega))]; exact (Int.toNat_natCast _))) (by omega) (by omega)) (call_b hC.ts TC_X10_at TN_X10 TM_X10_140 hd_X10_at ⟨Nat.le_of_ble_eq_true rfl, Nat.le_of_ble_eq_true rfl⟩) TI_X10_at TS_X10_at (ct_model G _ _) rfl rfl rfl (Nat.le_of_ble_eq_true rfl) dX10_close_30 ⟨Nat.le_of_ble_eq_true rfl, Nat.le_of_ble_eq_true rfl⟩) hS (fun v_148 H locs w_149 hR hS => ?_)
          subst w_149
          refine lv_iconst (v := 0) hC.x hC.b dX10_close_33 (by decide) ?_
          refine zast hC hK hG hR hS (fun _ => ct_m_hasX G _ _) (nI_T _ (by omega)) (by omega) (by omega) (Int.toNat_natCast _) (Or.inl rfl) dX10_close_34 (fun s_150 es_151 H locs hR hS => ?_)
          refine lv_aload_n hC.x hC.b dX10_close_35 rfl (lv_at hl 0 rfl) ?_
          refine rget hC hK hR (ct_model G _ _) rfl uin_X10 17 (by decide) TF_X10_62 rfl dX10_close_36 ?_
          refine lv_aload_n hC.x hC.b dX10_close_39 rfl (lv_at hl 0 rfl) ?_
          refine lv_aload_n hC.x hC.b dX10_close_40 rfl (lv_at hl 0 rfl) ?_
          refine rget hC hK hR (ct_model G _ _) rfl uin_X10 29 (by decide) TF_X10_137 rfl dX10_close_41 ?_
          have rd_152 : (s_150 35 29).toInt = (s1 35 29).toInt := congrArg Int32.toInt (show s_150 35 29 = s1 35 29 from (by rw [es_151]; exact up2_o (by omega)))
          refine lv_iload_n hC.x hC.b dX10_close_44 rfl (lv_at hl 1 rfl) ?_
          have av_153 : (nI n).toInt = (n : Int) := (nI_T n (by omega))
          refine goip (runV (As := [.int (s_150 35 29), .int (nI n)]) (rest := [.ref (G.2.1 53)]) hC hK hR hl.1 (c_X10_at l hG s_150 τ (s_150 35 29) (((s_150 35 29).toInt).toNat) (by first | rfl | (rw [show (s_150 35 29).toInt = (s_150 35 29).toInt from rfl]; done) | (rw [show (s_150 35 29).toInt = (s_150 35 29).toInt from rfl]; exact rfl)) (nI n) n (by first | rfl | (rw [show (nI n).toInt = (n : Int) from (nI_T n (by omega))]; done) | (rw [show (nI n).toInt = (n : Int) from (nI_T n (by omega))]; exact (Int.toNat_natCast _))) (by omega) (by omega)) (call_b hC.ts TC_X10_at TN_X10 TM_X10_140 hd_X10_at ⟨Nat.le_of_ble_eq_true rfl, Nat.le_of_ble_eq_true rfl⟩) TI_X10_at TS_X10_at (ct_model G _ _) rfl rfl rfl (Nat.le_of_ble_eq_true rfl) dX10_close_45 ⟨Nat.le_of_ble_eq_true rfl, Nat.le_of_ble_eq_true rfl⟩) hS (fun v_154 H locs w_155 hR hS => ?_)
          subst w_155
          refine lv_iconst (v := 0) hC.x hC.b dX10_close_48 (by decide) ?_
          refine zast hC hK hG hR hS (fun _ => ct_m_hasF G _ _) (nI_T _ (by omega)) (by omega) (by omega) (Int.toNat_natCast _) (Or.inl rfl) dX10_close_49 (fun s_156 es_157 H locs hR hS => ?_)
          refine lv_iinc (v := nI (n + 1)) (lv' := [(1, .int (nI (n + 1))), (0, .ref (G.2.1 35))]) hC.x hC.b dX10_close_50 hl (k := 1) rfl (nI_succ _).symm (by decide) rfl (fun ls hl => ?_)
          refine lv_goto (tgt := 14) hC.x hC.b dX10_close_53 (by decide) ?_
          have rd_158 : (s_156 35 29).toInt = (s1 35 29).toInt := congrArg Int32.toInt (Eq.trans (show s_156 35 29 = s_150 35 29 from (by rw [es_157]; exact up2_o (by omega))) (show s_150 35 29 = s1 35 29 from (by rw [es_151]; exact up2_o (by omega))))
          have rd_159 : (s_156 35 33).toInt = (s1 35 33).toInt := congrArg Int32.toInt (Eq.trans (show s_156 35 33 = s_150 35 33 from (by rw [es_157]; exact up2_o (by omega))) (show s_150 35 33 = s1 35 33 from (by rw [es_151]; exact up2_o (by omega))))
          exact ih_14 (n + 1) s_156 (by omega) (by exact (by rw [es_157]; exact KM.up (by rw [es_151]; exact KM.up hi0_14 (by omega)) (by omega))) (by first | omega | assumption) (by omega) (by rw [es_157]; exact MRel.up ((by rw [es_151]; exact MRel.up (hi3_14) (by omega) (by first | omega | (dsimp only; omega)))) (by omega) (by first | omega | (dsimp only; omega))) _ _ _ hR hS (lv_sub hl [1, 0] rfl)
    exact L_14 _ 0 σ (Nat.lt_succ_self _) (by exact hkm) (by first | omega | assumption) (by exact ⟨rfl, rfl⟩) MRel.rf _ _ _ hR hS (lv_sub hl [1, 0] rfl)
  · skip
    refine lv_iconst (v := (-1)) hC.x hC.b dX10_close_10 (by decide) ?_
    exact reti hC hK hR hS (by first | exact Or.inl (⟨by first | rfl | omega, by exact MRel.rf, by first | omega | assumption, by rfl⟩) | exact Or.inr ((⟨by exact MRel.rf, by first | omega | assumption, by exact hkm, by first | omega | (dsimp only; omega), by first | omega | (dsimp only; omega)⟩)) | exact False.elim (by omega)) dX10_close_11
