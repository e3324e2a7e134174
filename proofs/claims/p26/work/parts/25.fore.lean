abbrev po_X10_line (σ : SI) (τ : SL) (pl : Int32) (q : Nat) (ga : Int32) : SI × SL → Prop := fun u => ((MRel (fun _ => False) (fun j => j = 44) σ u.1) ∧ (0 < (u.2 35 46).toInt ∧ (u.2 35 46).toInt < 32768))
set_option maxRecDepth 100000 in
set_option maxHeartbeats 4000000 in
theorem c_X10_line (l : Launch) {G : Gx} {A : Nat → Prop} (hG : GOk G A) (σ : SI) (τ : SL) (pl : Int32) (q : Nat) (hp_q : pl.toInt.toNat = q) (ga : Int32) (hnw : 0 ≤ (σ 35 29).toInt ∧ (σ 35 29).toInt ≤ 200) (hin : 0 ≤ pl.toInt ∧ pl.toInt < 24) (ho : 2 ≤ (σ 37 q).toInt ∧ (σ 37 q).toInt ≤ 12) : MV l G A 3 yX10_line cX10_line 16 none [.ref (G.2.1 35), .int pl, .int ga] (σ, τ) (po_X10_line σ τ pl q ga) := by
  refine met_of (own := RX10) (by decide +kernel) rfl [(0, .ref (G.2.1 35)), (1, .int pl), (2, .int ga)] rfl (Nat.le_of_ble_eq_true rfl) ?_
  intro p e s m args below meth c ls hC hK hR hl
  have hS : va_S A s.heap s.heap [] := va_S.rf
  refine lv_lconst (v := 0) hC.x hC.b dX10_line_0 (by decide) ?_
  refine lv_lstore_n (lv' := [(3, .long (0 : Int64)), (0, .ref (G.2.1 35)), (1, .int pl), (2, .int ga)]) hC.x hC.b dX10_line_1 rfl hl (by decide) rfl (fun ls hl => ?_)
  refine lv_lconst (v := 0) hC.x hC.b dX10_line_2 (by decide) ?_
  refine lv_lstore (lv' := [(5, .long (0 : Int64)), (3, .long (0 : Int64)), (0, .ref (G.2.1 35)), (1, .int pl), (2, .int ga)]) hC.x hC.b dX10_line_3 hl (by decide) rfl (fun ls hl => ?_)
  refine lv_lconst (v := 0) hC.x hC.b dX10_line_5 (by decide) ?_
  refine lv_lstore (lv' := [(7, .long (0 : Int64)), (5, .long (0 : Int64)), (3, .long (0 : Int64)), (0, .ref (G.2.1 35)), (1, .int pl), (2, .int ga)]) hC.x hC.b dX10_line_6 hl (by decide) rfl (fun ls hl => ?_)
  refine lv_lconst (v := 0) hC.x hC.b dX10_line_8 (by decide) ?_
  refine lv_lstore (lv' := [(9, .long (0 : Int64)), (7, .long (0 : Int64)), (5, .long (0 : Int64)), (3, .long (0 : Int64)), (0, .ref (G.2.1 35)), (1, .int pl), (2, .int ga)]) hC.x hC.b dX10_line_9 hl (by decide) rfl (fun ls hl => ?_)
  refine lv_aload_n hC.x hC.b dX10_line_11 rfl (lv_at hl 4 rfl) ?_
  refine lv_iconst (v := 0) hC.x hC.b dX10_line_12 (by decide) ?_
  refine rputi hC hK hG hR hS (ct_model G _ _) rfl uin_X10 tyX10 tyX10_ok nmX10 44 (by decide) TF_X10_176 rfl (Or.inl rfl) (Nat.le_of_ble_eq_true rfl) rfl (ct_model G _ _) dX10_line_13 (fun s_2 es_1 H locs hR hS => ?_)
  refine lv_aload_n hC.x hC.b dX10_line_16 rfl (lv_at hl 4 rfl) ?_
  refine rget hC hK hR (ct_model G _ _) rfl uin_X10 29 (by decide) TF_X10_137 rfl dX10_line_17 ?_
  have rd_3 : (s_2 35 29).toInt = (σ 35 29).toInt := congrArg Int32.toInt (show s_2 35 29 = σ 35 29 from (by rw [es_1]; exact up2_n (by omega)))
  refine lv_aload_n hC.x hC.b dX10_line_20 rfl (lv_at hl 4 rfl) ?_
  refine rget hC hK hR (ct_model G _ _) rfl uin_X10 1 (by decide) TF_X10_13 rfl dX10_line_21 ?_
  refine lv_iload_n hC.x hC.b dX10_line_24 rfl (lv_at hl 5 rfl) ?_
  refine ald hC hK hR (ct_m_one G _ _) rfl (by omega) (by omega) hp_q dX10_line_25 ?_
  have rd_4 : (s_2 37 q).toInt = (σ 37 q).toInt := congrArg Int32.toInt (show s_2 37 q = σ 37 q from (by rw [es_1]; exact up2_o (by omega)))
  refine lv_isub hC.x hC.b dX10_line_26 ?_
  have pr_5 : ((s_2 35 29) - (s_2 37 q)).toInt = ((s_2 35 29).toInt - (s_2 37 q).toInt) := subI rfl rfl (by omega) (by omega)
  refine lv_topi (fun x_6 ex_7 => ?_)
  have pr_8 : x_6.toInt = ((s_2 35 29).toInt - (s_2 37 q).toInt) := by rw [ex_7]; exact pr_5
  refine lv_istore (lv' := [(11, .int x_6), (9, .long (0 : Int64)), (7, .long (0 : Int64)), (5, .long (0 : Int64)), (3, .long (0 : Int64)), (0, .ref (G.2.1 35)), (1, .int pl), (2, .int ga)]) hC.x hC.b dX10_line_27 hl (by decide) rfl (fun ls hl => ?_)
  have L_29 : ∀ (F : Nat) (x3 : Int64) (x5 : Int64) (x7 : Int64) (x9 : Int64) (t : Int32) (s1 : SI) (t1 : SL), (((σ 35 29).toInt - t.toInt).toNat) < F → ((σ 35 29).toInt - (σ 37 q).toInt ≤ t.toInt ∧ t.toInt ≤ (σ 35 29).toInt) → (LSq (-(σ 37 q).toInt) (t.toInt - ((σ 35 29).toInt - (σ 37 q).toInt)) (s1 35 44).toInt x3.toInt x7.toInt) → (MRel (fun _ => False) (fun j => j = 44) σ s1) → ∀ (H : Heap) (locs : List Loc) (ls : Array Slot), RepH G s1 t1 H → va_S A s.heap H locs → lv_has ls 16 [(0, .ref (G.2.1 35)), (1, .int pl), (2, .int ga), (3, .long x3), (5, .long x5), (7, .long x7), (9, .long x9), (11, .int t)] → W p l e (rmD 3) s m args below meth c H locs 0 0 (MQ below (va_Qv (po_X10_line σ τ pl q ga) (BU G) A) args s 0 0 A) (F0 m 29 ls []) := by
    intro F
    induction F with
    | zero => intro x3 x5 x7 x9 t s1 t1 hm; exact absurd hm (Nat.not_lt_zero _)
    | succ F ih_29 =>
      intro x3 x5 x7 x9 t s1 t1 hm_29 hi0_29 hi1_29 hi2_29 H locs ls hR hS hl
      have hLb := hi1_29.bd
      refine lv_iload hC.x hC.b dX10_line_29 (lv_at hl 7 rfl) ?_
      refine lv_aload_n hC.x hC.b dX10_line_31 rfl (lv_at hl 0 rfl) ?_
      refine rget hC hK hR (ct_model G _ _) rfl uin_X10 29 (by decide) TF_X10_137 rfl dX10_line_32 ?_
      have rd_9 : (s1 35 29).toInt = (σ 35 29).toInt := congrArg Int32.toInt (show s1 35 29 = σ 35 29 from hi2_29.2 29 (by first | omega | (dsimp only; omega)))
      refine bi_ge (tgt := 177) (a := t.toInt) (b := (s1 35 29).toInt) hC.x hC.b rfl rfl dX10_line_35 (by decide) (fun c_10 => ?_) (fun c_10 => ?_)
      · skip
        refine lv_aload_n hC.x hC.b dX10_line_177 rfl (lv_at hl 0 rfl) ?_
        refine lv_lconst (v := 0) hC.x hC.b dX10_line_178 (by decide) ?_
        refine rputl hC hK hG hR hS (ct_model G _ _) rfl uin_X10 tyX10 tyX10_ok nmX10 45 (by decide) TF_X10_182 rfl rfl (Nat.le_of_ble_eq_true rfl) rfl (ct_model G _ _) dX10_line_179 (fun t_12 es_11 H locs hR hS => ?_)
        refine lv_aload_n hC.x hC.b dX10_line_182 rfl (lv_at hl 0 rfl) ?_
        refine lv_lconst (v := 1) hC.x hC.b dX10_line_183 (by decide) ?_
        refine rputl hC hK hG hR hS (ct_model G _ _) rfl uin_X10 tyX10 tyX10_ok nmX10 46 (by decide) TF_X10_186 rfl rfl (Nat.le_of_ble_eq_true rfl) rfl (ct_model G _ _) dX10_line_184 (fun t_14 es_13 H locs hR hS => ?_)
        refine lv_aload_n hC.x hC.b dX10_line_187 rfl (lv_at hl 0 rfl) ?_
        refine lv_aload_n hC.x hC.b dX10_line_188 rfl (lv_at hl 0 rfl) ?_
        refine rget hC hK hR (ct_model G _ _) rfl uin_X10 44 (by decide) TF_X10_176 rfl dX10_line_189 ?_
        refine lv_iconst (v := 1) hC.x hC.b dX10_line_192 (by decide) ?_
        refine bi_ne (tgt := 201) (a := (s1 35 44).toInt) (b := 1) hC.x hC.b rfl rfl dX10_line_193 (by decide) (fun c_15 => ?_) (fun c_15 => ?_)
        · skip
          refine lv_lconst (v := 0) hC.x hC.b dX10_line_201 (by decide) ?_
          refine rputl hC hK hG hR hS (ct_model G _ _) rfl uin_X10 tyX10 tyX10_ok nmX10 47 (by decide) TF_X10_189 rfl rfl (Nat.le_of_ble_eq_true rfl) rfl (ct_model G _ _) dX10_line_202 (fun t_17 es_16 H locs hR hS => ?_)
          refine lv_aload_n hC.x hC.b dX10_line_205 rfl (lv_at hl 0 rfl) ?_
          refine rget hC hK hR (ct_model G _ _) rfl uin_X10 44 (by decide) TF_X10_176 rfl dX10_line_206 ?_
          refine lv_iconst (v := 2) hC.x hC.b dX10_line_209 (by decide) ?_
          refine bi_ge (tgt := 214) (a := (s1 35 44).toInt) (b := 2) hC.x hC.b rfl rfl dX10_line_210 (by decide) (fun c_18 => ?_) (fun c_18 => ?_)
          · skip
            have hV := LSq.pos hi1_29 (by omega) (by omega)
            refine lv_aload_n hC.x hC.b dX10_line_214 rfl (lv_at hl 0 rfl) ?_
            refine lv_aload_n hC.x hC.b dX10_line_215 rfl (lv_at hl 0 rfl) ?_
            refine rget hC hK hR (ct_model G _ _) rfl uin_X10 44 (by decide) TF_X10_176 rfl dX10_line_216 ?_
            refine lv_i2l hC.x hC.b dX10_line_219 rfl ?_
            refine lv_lload hC.x hC.b dX10_line_220 (lv_at hl 6 rfl) ?_
            refine lv_lmul hC.x hC.b dX10_line_222 ?_
            refine lv_lload_n hC.x hC.b dX10_line_223 rfl (lv_at hl 3 rfl) ?_
            refine lv_lload hC.x hC.b dX10_line_224 (lv_at hl 4 rfl) ?_
            refine lv_lmul hC.x hC.b dX10_line_226 ?_
            refine lv_lsub hC.x hC.b dX10_line_227 ?_
            refine rputl hC hK hG hR hS (ct_model G _ _) rfl uin_X10 tyX10 tyX10_ok nmX10 45 (by decide) TF_X10_182 rfl rfl (Nat.le_of_ble_eq_true rfl) rfl (ct_model G _ _) dX10_line_228 (fun t_20 es_19 H locs hR hS => ?_)
            refine lv_aload_n hC.x hC.b dX10_line_231 rfl (lv_at hl 0 rfl) ?_
            refine lv_aload_n hC.x hC.b dX10_line_232 rfl (lv_at hl 0 rfl) ?_
            refine rget hC hK hR (ct_model G _ _) rfl uin_X10 44 (by decide) TF_X10_176 rfl dX10_line_233 ?_
            refine lv_i2l hC.x hC.b dX10_line_236 rfl ?_
            refine lv_lload hC.x hC.b dX10_line_237 (lv_at hl 5 rfl) ?_
            refine lv_lmul hC.x hC.b dX10_line_239 ?_
            have pr_21 : ((s1 35 44).toInt64 * x7).toInt = ((s1 35 44).toInt * x7.toInt) := mulL (i2lI rfl) rfl (by omega) (by omega)
            refine lv_lload_n hC.x hC.b dX10_line_240 rfl (lv_at hl 3 rfl) ?_
            refine lv_lload_n hC.x hC.b dX10_line_241 rfl (lv_at hl 3 rfl) ?_
            refine lv_lmul hC.x hC.b dX10_line_242 ?_
            have pr_22 : (x3 * x3).toInt = (x3.toInt * x3.toInt) := mulL rfl rfl (by omega) (by omega)
            refine lv_lsub hC.x hC.b dX10_line_243 ?_
            have pr_23 : (((s1 35 44).toInt64 * x7) - (x3 * x3)).toInt = (((s1 35 44).toInt * x7.toInt) - (x3.toInt * x3.toInt)) := subL pr_21 pr_22 (by omega) (by omega)
            refine rputl hC hK hG hR hS (ct_model G _ _) rfl uin_X10 tyX10 tyX10_ok nmX10 46 (by decide) TF_X10_186 rfl rfl (Nat.le_of_ble_eq_true rfl) rfl (ct_model G _ _) dX10_line_244 (fun t_25 es_24 H locs hR hS => ?_)
            refine lv_aload_n hC.x hC.b dX10_line_247 rfl (lv_at hl 0 rfl) ?_
            refine lv_lload hC.x hC.b dX10_line_248 (lv_at hl 4 rfl) ?_
            refine lv_aload_n hC.x hC.b dX10_line_250 rfl (lv_at hl 0 rfl) ?_
            refine rget hC hK hR (ct_model G _ _) rfl uin_X10 46 (by decide) TF_X10_186 rfl dX10_line_251 ?_
            rw [show t_25 35 46 = (((s1 35 44).toInt64 * x7) - (x3 * x3)) from (by rw [es_24]; exact up2_s)]
            refine lv_lmul hC.x hC.b dX10_line_254 ?_
            refine lv_aload_n hC.x hC.b dX10_line_255 rfl (lv_at hl 0 rfl) ?_
            refine rget hC hK hR (ct_model G _ _) rfl uin_X10 45 (by decide) TF_X10_182 rfl dX10_line_256 ?_
            refine lv_lload_n hC.x hC.b dX10_line_259 rfl (lv_at hl 3 rfl) ?_
            refine lv_lmul hC.x hC.b dX10_line_260 ?_
            refine lv_lsub hC.x hC.b dX10_line_261 ?_
            refine lv_aload_n hC.x hC.b dX10_line_262 rfl (lv_at hl 0 rfl) ?_
            refine rget hC hK hR (ct_model G _ _) rfl uin_X10 44 (by decide) TF_X10_176 rfl dX10_line_263 ?_
            refine lv_i2l hC.x hC.b dX10_line_266 rfl ?_
            refine lv_aload_n hC.x hC.b dX10_line_267 rfl (lv_at hl 0 rfl) ?_
            refine rget hC hK hR (ct_model G _ _) rfl uin_X10 46 (by decide) TF_X10_186 rfl dX10_line_268 ?_
            rw [show t_25 35 46 = (((s1 35 44).toInt64 * x7) - (x3 * x3)) from (by rw [es_24]; exact up2_s)]
            have hnV := mulb (n := (s1 35 44).toInt) (V := (s1 35 44).toInt * x7.toInt - x3.toInt * x3.toInt) (by omega) (by omega)
            refine lv_lmul hC.x hC.b dX10_line_271 ?_
            have pr_26 : ((s1 35 44).toInt64 * (((s1 35 44).toInt64 * x7) - (x3 * x3))).toInt = ((s1 35 44).toInt * (((s1 35 44).toInt * x7.toInt) - (x3.toInt * x3.toInt))) := mulL (i2lI rfl) pr_23 (by omega) (by omega)
            have av_27 : ((s1 35 44).toInt64 * (((s1 35 44).toInt64 * x7) - (x3 * x3))).toInt = ((s1 35 44).toInt * (((s1 35 44).toInt * x7.toInt) - (x3.toInt * x3.toInt))) := pr_26
            refine golp (runS (As := [.long ((x5 * (((s1 35 44).toInt64 * x7) - (x3 * x3))) - ((t_25 35 45) * x3)), .long ((s1 35 44).toInt64 * (((s1 35 44).toInt64 * x7) - (x3 * x3)))]) (rest := [.ref (G.2.1 35)]) hC hK hR hl.1 (c_X10_downwards l hG s1 t_25 ((x5 * (((s1 35 44).toInt64 * x7) - (x3 * x3))) - ((t_25 35 45) * x3)) ((s1 35 44).toInt64 * (((s1 35 44).toInt64 * x7) - (x3 * x3))) (by omega)) (call_b hC.ts TC_X10_downwards TN_X10 TM_X10_192 hd_X10_downwards ⟨Nat.le_of_ble_eq_true rfl, Nat.le_of_ble_eq_true rfl⟩) TT_X10_downwards rfl rfl (Nat.le_of_ble_eq_true rfl) dX10_line_272 ⟨Nat.le_of_ble_eq_true rfl, Nat.le_of_ble_eq_true rfl⟩) hS (fun v_28 H locs w_29 hR hS => ?_)
            refine rputl hC hK hG hR hS (ct_model G _ _) rfl uin_X10 tyX10 tyX10_ok nmX10 47 (by decide) TF_X10_189 rfl rfl (Nat.le_of_ble_eq_true rfl) rfl (ct_model G _ _) dX10_line_275 (fun t_31 es_30 H locs hR hS => ?_)
            exact retv hC hK hR hS (⟨by exact hi2_29, by (show 0 < (t_31 35 46).toInt ∧ (t_31 35 46).toInt < 32768); subst es_30; subst es_24; subst es_19; subst es_16; subst es_13; subst es_11; rw [up2_n (show (46:Nat) ≠ 47 by decide), up2_s]; first | decide | omega⟩) dX10_line_278
          · skip
            exact retv hC hK hR hS (⟨by exact hi2_29, by (show 0 < (t_17 35 46).toInt ∧ (t_17 35 46).toInt < 32768); subst es_16; subst es_13; subst es_11; rw [up2_n (show (46:Nat) ≠ 47 by decide), up2_s]; first | decide | omega⟩) dX10_line_213
        · skip
          refine lv_lload hC.x hC.b dX10_line_196 (lv_at hl 4 rfl) ?_
          refine lv_goto (tgt := 202) hC.x hC.b dX10_line_198 (by decide) ?_
          refine rputl hC hK hG hR hS (ct_model G _ _) rfl uin_X10 tyX10 tyX10_ok nmX10 47 (by decide) TF_X10_189 rfl rfl (Nat.le_of_ble_eq_true rfl) rfl (ct_model G _ _) dX10_line_202 (fun t_33 es_32 H locs hR hS => ?_)
          refine lv_aload_n hC.x hC.b dX10_line_205 rfl (lv_at hl 0 rfl) ?_
          refine rget hC hK hR (ct_model G _ _) rfl uin_X10 44 (by decide) TF_X10_176 rfl dX10_line_206 ?_
          refine lv_iconst (v := 2) hC.x hC.b dX10_line_209 (by decide) ?_
          refine bi_ge (tgt := 214) (a := (s1 35 44).toInt) (b := 2) hC.x hC.b rfl rfl dX10_line_210 (by decide) (fun c_34 => ?_) (fun c_34 => ?_)
          · skip
            have hV := LSq.pos hi1_29 (by omega) (by omega)
            refine lv_aload_n hC.x hC.b dX10_line_214 rfl (lv_at hl 0 rfl) ?_
            refine lv_aload_n hC.x hC.b dX10_line_215 rfl (lv_at hl 0 rfl) ?_
            refine rget hC hK hR (ct_model G _ _) rfl uin_X10 44 (by decide) TF_X10_176 rfl dX10_line_216 ?_
            refine lv_i2l hC.x hC.b dX10_line_219 rfl ?_
            refine lv_lload hC.x hC.b dX10_line_220 (lv_at hl 6 rfl) ?_
            refine lv_lmul hC.x hC.b dX10_line_222 ?_
            refine lv_lload_n hC.x hC.b dX10_line_223 rfl (lv_at hl 3 rfl) ?_
            refine lv_lload hC.x hC.b dX10_line_224 (lv_at hl 4 rfl) ?_
            refine lv_lmul hC.x hC.b dX10_line_226 ?_
            refine lv_lsub hC.x hC.b dX10_line_227 ?_
            refine rputl hC hK hG hR hS (ct_model G _ _) rfl uin_X10 tyX10 tyX10_ok nmX10 45 (by decide) TF_X10_182 rfl rfl (Nat.le_of_ble_eq_true rfl) rfl (ct_model G _ _) dX10_line_228 (fun t_36 es_35 H locs hR hS => ?_)
            refine lv_aload_n hC.x hC.b dX10_line_231 rfl (lv_at hl 0 rfl) ?_
            refine lv_aload_n hC.x hC.b dX10_line_232 rfl (lv_at hl 0 rfl) ?_
            refine rget hC hK hR (ct_model G _ _) rfl uin_X10 44 (by decide) TF_X10_176 rfl dX10_line_233 ?_
            refine lv_i2l hC.x hC.b dX10_line_236 rfl ?_
            refine lv_lload hC.x hC.b dX10_line_237 (lv_at hl 5 rfl) ?_
            refine lv_lmul hC.x hC.b dX10_line_239 ?_
            have pr_37 : ((s1 35 44).toInt64 * x7).toInt = ((s1 35 44).toInt * x7.toInt) := mulL (i2lI rfl) rfl (by omega) (by omega)
            refine lv_lload_n hC.x hC.b dX10_line_240 rfl (lv_at hl 3 rfl) ?_
            refine lv_lload_n hC.x hC.b dX10_line_241 rfl (lv_at hl 3 rfl) ?_
            refine lv_lmul hC.x hC.b dX10_line_242 ?_
            have pr_38 : (x3 * x3).toInt = (x3.toInt * x3.toInt) := mulL rfl rfl (by omega) (by omega)
            refine lv_lsub hC.x hC.b dX10_line_243 ?_
            have pr_39 : (((s1 35 44).toInt64 * x7) - (x3 * x3)).toInt = (((s1 35 44).toInt * x7.toInt) - (x3.toInt * x3.toInt)) := subL pr_37 pr_38 (by omega) (by omega)
            refine rputl hC hK hG hR hS (ct_model G _ _) rfl uin_X10 tyX10 tyX10_ok nmX10 46 (by decide) TF_X10_186 rfl rfl (Nat.le_of_ble_eq_true rfl) rfl (ct_model G _ _) dX10_line_244 (fun t_41 es_40 H locs hR hS => ?_)
            refine lv_aload_n hC.x hC.b dX10_line_247 rfl (lv_at hl 0 rfl) ?_
            refine lv_lload hC.x hC.b dX10_line_248 (lv_at hl 4 rfl) ?_
            refine lv_aload_n hC.x hC.b dX10_line_250 rfl (lv_at hl 0 rfl) ?_
            refine rget hC hK hR (ct_model G _ _) rfl uin_X10 46 (by decide) TF_X10_186 rfl dX10_line_251 ?_
            rw [show t_41 35 46 = (((s1 35 44).toInt64 * x7) - (x3 * x3)) from (by rw [es_40]; exact up2_s)]
            refine lv_lmul hC.x hC.b dX10_line_254 ?_
            refine lv_aload_n hC.x hC.b dX10_line_255 rfl (lv_at hl 0 rfl) ?_
            refine rget hC hK hR (ct_model G _ _) rfl uin_X10 45 (by decide) TF_X10_182 rfl dX10_line_256 ?_
            refine lv_lload_n hC.x hC.b dX10_line_259 rfl (lv_at hl 3 rfl) ?_
            refine lv_lmul hC.x hC.b dX10_line_260 ?_
            refine lv_lsub hC.x hC.b dX10_line_261 ?_
            refine lv_aload_n hC.x hC.b dX10_line_262 rfl (lv_at hl 0 rfl) ?_
            refine rget hC hK hR (ct_model G _ _) rfl uin_X10 44 (by decide) TF_X10_176 rfl dX10_line_263 ?_
            refine lv_i2l hC.x hC.b dX10_line_266 rfl ?_
            refine lv_aload_n hC.x hC.b dX10_line_267 rfl (lv_at hl 0 rfl) ?_
            refine rget hC hK hR (ct_model G _ _) rfl uin_X10 46 (by decide) TF_X10_186 rfl dX10_line_268 ?_
            rw [show t_41 35 46 = (((s1 35 44).toInt64 * x7) - (x3 * x3)) from (by rw [es_40]; exact up2_s)]
            have hnV := mulb (n := (s1 35 44).toInt) (V := (s1 35 44).toInt * x7.toInt - x3.toInt * x3.toInt) (by omega) (by omega)
            refine lv_lmul hC.x hC.b dX10_line_271 ?_
            have pr_42 : ((s1 35 44).toInt64 * (((s1 35 44).toInt64 * x7) - (x3 * x3))).toInt = ((s1 35 44).toInt * (((s1 35 44).toInt * x7.toInt) - (x3.toInt * x3.toInt))) := mulL (i2lI rfl) pr_39 (by omega) (by omega)
            have av_43 : ((s1 35 44).toInt64 * (((s1 35 44).toInt64 * x7) - (x3 * x3))).toInt = ((s1 35 44).toInt * (((s1 35 44).toInt * x7.toInt) - (x3.toInt * x3.toInt))) := pr_42
            refine golp (runS (As := [.long ((x5 * (((s1 35 44).toInt64 * x7) - (x3 * x3))) - ((t_41 35 45) * x3)), .long ((s1 35 44).toInt64 * (((s1 35 44).toInt64 * x7) - (x3 * x3)))]) (rest := [.ref (G.2.1 35)]) hC hK hR hl.1 (c_X10_downwards l hG s1 t_41 ((x5 * (((s1 35 44).toInt64 * x7) - (x3 * x3))) - ((t_41 35 45) * x3)) ((s1 35 44).toInt64 * (((s1 35 44).toInt64 * x7) - (x3 * x3))) (by omega)) (call_b hC.ts TC_X10_downwards TN_X10 TM_X10_192 hd_X10_downwards ⟨Nat.le_of_ble_eq_true rfl, Nat.le_of_ble_eq_true rfl⟩) TT_X10_downwards rfl rfl (Nat.le_of_ble_eq_true rfl) dX10_line_272 ⟨Nat.le_of_ble_eq_true rfl, Nat.le_of_ble_eq_true rfl⟩) hS (fun v_44 H locs w_45 hR hS => ?_)
            refine rputl hC hK hG hR hS (ct_model G _ _) rfl uin_X10 tyX10 tyX10_ok nmX10 47 (by decide) TF_X10_189 rfl rfl (Nat.le_of_ble_eq_true rfl) rfl (ct_model G _ _) dX10_line_275 (fun t_47 es_46 H locs hR hS => ?_)
            exact retv hC hK hR hS (⟨by exact hi2_29, by (show 0 < (t_47 35 46).toInt ∧ (t_47 35 46).toInt < 32768); subst es_46; subst es_40; subst es_35; subst es_32; subst es_13; subst es_11; rw [up2_n (show (46:Nat) ≠ 47 by decide), up2_s]; first | decide | omega⟩) dX10_line_278
          · skip
            exact retv hC hK hR hS (⟨by exact hi2_29, by (show 0 < (t_33 35 46).toInt ∧ (t_33 35 46).toInt < 32768); subst es_32; subst es_13; subst es_11; rw [up2_n (show (46:Nat) ≠ 47 by decide), up2_s]; first | decide | omega⟩) dX10_line_213
      · skip
        refine lv_iload_n hC.x hC.b dX10_line_38 rfl (lv_at hl 2 rfl) ?_
        refine bz_eq (tgt := 55) (a := ga.toInt) (b := 0) hC.x hC.b rfl rfl dX10_line_39 (by decide) (fun c_48 => ?_) (fun c_48 => ?_)
        · skip
          refine lv_aload_n hC.x hC.b dX10_line_55 rfl (lv_at hl 0 rfl) ?_
          refine lv_iload hC.x hC.b dX10_line_56 (lv_at hl 7 rfl) ?_
          refine lv_iload_n hC.x hC.b dX10_line_58 rfl (lv_at hl 1 rfl) ?_
          have rd_49 : (s1 35 29).toInt = (σ 35 29).toInt := congrArg Int32.toInt (show s1 35 29 = σ 35 29 from hi2_29.2 29 (by first | omega | (dsimp only; omega)))
          refine goip (runV (As := [.int t, .int pl]) (rest := []) hC hK hR hl.1 (c_X10_isX l hG s1 t1 t t.toInt.toNat rfl pl q (by first | rfl | (rw [show pl.toInt = pl.toInt from rfl]; done) | (rw [show pl.toInt = pl.toInt from rfl]; exact hp_q)) (by first | assumption | omega) (by omega)) (call_b hC.ts TC_X10_isX TN_X10 TM_X10_172 hd_X10_isX ⟨Nat.le_of_ble_eq_true rfl, Nat.le_of_ble_eq_true rfl⟩) TI_X10_isX TS_X10_isX (ct_model G _ _) rfl rfl rfl (Nat.le_of_ble_eq_true rfl) dX10_line_59 ⟨Nat.le_of_ble_eq_true rfl, Nat.le_of_ble_eq_true rfl⟩) hS (fun v_50 H locs w_51 hR hS => ?_)
          rcases w_51 with ⟨rfl, f_52, f_53⟩ | rfl
          · skip
            refine bz_ne (tgt := 68) (a := 1) (b := 0) hC.x hC.b rfl rfl dX10_line_62 (by decide) (fun _ => ?_) (fun c_54 => absurd c_54 (by decide))
            refine lv_iload hC.x hC.b dX10_line_68 (lv_at hl 7 rfl) ?_
            refine lv_aload_n hC.x hC.b dX10_line_70 rfl (lv_at hl 0 rfl) ?_
            refine rget hC hK hR (ct_model G _ _) rfl uin_X10 29 (by decide) TF_X10_137 rfl dX10_line_71 ?_
            have rd_55 : (s1 35 29).toInt = (σ 35 29).toInt := congrArg Int32.toInt (show s1 35 29 = σ 35 29 from hi2_29.2 29 (by first | omega | (dsimp only; omega)))
            refine lv_isub hC.x hC.b dX10_line_74 ?_
            have pr_56 : (t - (s1 35 29)).toInt = (t.toInt - (s1 35 29).toInt) := subI rfl rfl (by omega) (by omega)
            refine lv_i2l hC.x hC.b dX10_line_75 rfl ?_
            refine lv_topl (fun x_57 ex_58 => ?_)
            have pr_59 : x_57.toInt = (t.toInt - (s1 35 29).toInt) := by rw [ex_58]; exact (i2lI pr_56)
            refine lv_lstore (lv' := [(12, .long x_57), (0, .ref (G.2.1 35)), (1, .int pl), (2, .int ga), (3, .long x3), (5, .long x5), (7, .long x7), (9, .long x9), (11, .int t)]) hC.x hC.b dX10_line_76 hl (by decide) rfl (fun ls hl => ?_)
            refine lv_iload_n hC.x hC.b dX10_line_78 rfl (lv_at hl 3 rfl) ?_
            refine bz_eq (tgt := 114) (a := ga.toInt) (b := 0) hC.x hC.b rfl rfl dX10_line_79 (by decide) (fun c_60 => ?_) (fun c_60 => ?_)
            · skip
              refine lv_aload_n hC.x hC.b dX10_line_114 rfl (lv_at hl 1 rfl) ?_
              refine rget hC hK hR (ct_model G _ _) rfl uin_X10 18 (by decide) TF_X10_65 rfl dX10_line_115 ?_
              refine lv_aload_n hC.x hC.b dX10_line_118 rfl (lv_at hl 1 rfl) ?_
              refine lv_iload hC.x hC.b dX10_line_119 (lv_at hl 8 rfl) ?_
              refine lv_iload_n hC.x hC.b dX10_line_121 rfl (lv_at hl 2 rfl) ?_
              refine goip (runV (As := [.int t, .int pl]) (rest := [.ref (G.2.1 54)]) hC hK hR hl.1 (c_X10_at l hG s1 t1 t t.toInt.toNat rfl pl q (by first | rfl | (rw [show pl.toInt = pl.toInt from rfl]; done) | (rw [show pl.toInt = pl.toInt from rfl]; exact hp_q)) (by omega) (by omega)) (call_b hC.ts TC_X10_at TN_X10 TM_X10_140 hd_X10_at ⟨Nat.le_of_ble_eq_true rfl, Nat.le_of_ble_eq_true rfl⟩) TI_X10_at TS_X10_at (ct_model G _ _) rfl rfl rfl (Nat.le_of_ble_eq_true rfl) dX10_line_122 ⟨Nat.le_of_ble_eq_true rfl, Nat.le_of_ble_eq_true rfl⟩) hS (fun v_61 H locs w_62 hR hS => ?_)
              subst w_62
              refine ald hC hK hR (ct_m_xs G _ _) (nI_T _ (by omega)) (by omega) (by omega) (Int.toNat_natCast _) dX10_line_125 ?_
              have rd_63 : (s1 54 (24 * t.toInt.toNat + q)).toInt = (σ 54 (24 * t.toInt.toNat + q)).toInt := congrArg Int32.toInt (show s1 54 (24 * t.toInt.toNat + q) = σ 54 (24 * t.toInt.toNat + q) from congrFun (hi2_29.1 54 (by omega) (by first | omega | (dsimp only; omega) | (intro h; exact h))) (24 * t.toInt.toNat + q))
              refine lv_i2l hC.x hC.b dX10_line_126 rfl ?_
              refine lv_topl (fun x_64 ex_65 => ?_)
              have pr_66 : x_64.toInt = (s1 54 (24 * t.toInt.toNat + q)).toInt := by rw [ex_65]; exact (i2lI rfl)
              refine lv_lstore (lv' := [(14, .long x_64), (12, .long x_57), (0, .ref (G.2.1 35)), (1, .int pl), (2, .int ga), (3, .long x3), (5, .long x5), (7, .long x7), (9, .long x9), (11, .int t)]) hC.x hC.b dX10_line_127 hl (by decide) rfl (fun ls hl => ?_)
              refine lv_aload_n hC.x hC.b dX10_line_129 rfl (lv_at hl 2 rfl) ?_
              refine lv_dup hC.x hC.b dX10_line_130 rfl ?_
              refine rget hC hK hR (ct_model G _ _) rfl uin_X10 44 (by decide) TF_X10_176 rfl dX10_line_131 ?_
              refine lv_iconst (v := 1) hC.x hC.b dX10_line_134 (by decide) ?_
              refine lv_iadd hC.x hC.b dX10_line_135 ?_
              have pr_67 : ((s1 35 44) + (1 : Int32)).toInt = ((s1 35 44).toInt + 1) := addI rfl rfl (by omega) (by omega)
              refine rputi hC hK hG hR hS (ct_model G _ _) rfl uin_X10 tyX10 tyX10_ok nmX10 44 (by decide) TF_X10_176 rfl (Or.inl rfl) (Nat.le_of_ble_eq_true rfl) rfl (ct_model G _ _) dX10_line_136 (fun s_69 es_68 H locs hR hS => ?_)
              refine lv_lload_n hC.x hC.b dX10_line_139 rfl (lv_at hl 5 rfl) ?_
              refine lv_lload hC.x hC.b dX10_line_140 (lv_at hl 1 rfl) ?_
              refine lv_ladd hC.x hC.b dX10_line_142 ?_
              have pr_70 : (x3 + x_57).toInt = (x3.toInt + (t.toInt - (s1 35 29).toInt)) := addL rfl pr_59 (by omega) (by omega)
              refine lv_lstore_n (lv' := [(3, .long (x3 + x_57)), (14, .long x_64), (12, .long x_57), (0, .ref (G.2.1 35)), (1, .int pl), (2, .int ga), (5, .long x5), (7, .long x7), (9, .long x9), (11, .int t)]) hC.x hC.b dX10_line_143 rfl hl (by decide) rfl (fun ls hl => ?_)
              refine lv_lload hC.x hC.b dX10_line_144 (lv_at hl 6 rfl) ?_
              refine lv_lload hC.x hC.b dX10_line_146 (lv_at hl 1 rfl) ?_
              refine lv_ladd hC.x hC.b dX10_line_148 ?_
              refine lv_lstore (lv' := [(5, .long (x5 + x_64)), (3, .long (x3 + x_57)), (14, .long x_64), (12, .long x_57), (0, .ref (G.2.1 35)), (1, .int pl), (2, .int ga), (7, .long x7), (9, .long x9), (11, .int t)]) hC.x hC.b dX10_line_149 hl (by decide) rfl (fun ls hl => ?_)
              refine lv_lload hC.x hC.b dX10_line_151 (lv_at hl 7 rfl) ?_
              refine lv_lload hC.x hC.b dX10_line_153 (lv_at hl 3 rfl) ?_
              refine lv_lload hC.x hC.b dX10_line_155 (lv_at hl 3 rfl) ?_
              have htt := sqle (m := (t.toInt - (s1 35 29).toInt)) (B := 12) (by omega) (by omega)
              refine lv_lmul hC.x hC.b dX10_line_157 ?_
              have pr_71 : (x_57 * x_57).toInt = ((t.toInt - (s1 35 29).toInt) * (t.toInt - (s1 35 29).toInt)) := mulL pr_59 pr_59 (by omega) (by omega)
              refine lv_ladd hC.x hC.b dX10_line_158 ?_
              have pr_72 : (x7 + (x_57 * x_57)).toInt = (x7.toInt + ((t.toInt - (s1 35 29).toInt) * (t.toInt - (s1 35 29).toInt))) := addL rfl pr_71 (by omega) (by omega)
              refine lv_lstore (lv' := [(7, .long (x7 + (x_57 * x_57))), (5, .long (x5 + x_64)), (3, .long (x3 + x_57)), (14, .long x_64), (12, .long x_57), (0, .ref (G.2.1 35)), (1, .int pl), (2, .int ga), (9, .long x9), (11, .int t)]) hC.x hC.b dX10_line_159 hl (by decide) rfl (fun ls hl => ?_)
              refine lv_lload hC.x hC.b dX10_line_161 (lv_at hl 8 rfl) ?_
              refine lv_lload hC.x hC.b dX10_line_163 (lv_at hl 4 rfl) ?_
              refine lv_lload hC.x hC.b dX10_line_165 (lv_at hl 3 rfl) ?_
              refine lv_lmul hC.x hC.b dX10_line_167 ?_
              refine lv_ladd hC.x hC.b dX10_line_168 ?_
              refine lv_lstore (lv' := [(9, .long (x9 + (x_57 * x_64))), (7, .long (x7 + (x_57 * x_57))), (5, .long (x5 + x_64)), (3, .long (x3 + x_57)), (14, .long x_64), (12, .long x_57), (0, .ref (G.2.1 35)), (1, .int pl), (2, .int ga), (11, .int t)]) hC.x hC.b dX10_line_169 hl (by decide) rfl (fun ls hl => ?_)
              obtain ⟨x_73, ex_74⟩ : ∃ y : Int32, y = t + 1 := ⟨_, rfl⟩
              have pr_75 : x_73.toInt = t.toInt + (1) := by rw [ex_74]; exact addI rfl rfl (by omega) (by omega)
              refine lv_iinc (v := x_73) (lv' := [(11, .int x_73), (9, .long (x9 + (x_57 * x_64))), (7, .long (x7 + (x_57 * x_57))), (5, .long (x5 + x_64)), (3, .long (x3 + x_57)), (14, .long x_64), (12, .long x_57), (0, .ref (G.2.1 35)), (1, .int pl), (2, .int ga)]) hC.x hC.b dX10_line_171 hl (k := 9) rfl ex_74.symm (by decide) rfl (fun ls hl => ?_)
              refine lv_goto (tgt := 29) hC.x hC.b dX10_line_174 (by decide) ?_
              have rd_76 : (s_69 35 44).toInt = ((s1 35 44) + (1 : Int32)).toInt := congrArg Int32.toInt (show s_69 35 44 = ((s1 35 44) + (1 : Int32)) from (by rw [es_68]; exact up2_s))
              exact ih_29 (x3 + x_57) (x5 + x_64) (x7 + (x_57 * x_57)) (x9 + (x_57 * x_64)) x_73 s_69 t1 (by omega) (by first | omega | assumption) (by exact LSq.ad hi1_29 (t := (t.toInt - (s1 35 29).toInt)) (by omega) (by omega) (by omega) (by omega) (by omega) (by omega) (by omega)) (by rw [es_68]; exact MRel.upm (hi2_29) (by first | omega | (dsimp only; omega))) _ _ _ hR hS (lv_sub hl [7, 8, 9, 4, 3, 2, 1, 0] rfl)
            · skip
              refine lv_aload_n hC.x hC.b dX10_line_82 rfl (lv_at hl 1 rfl) ?_
              refine rget hC hK hR (ct_model G _ _) rfl uin_X10 18 (by decide) TF_X10_65 rfl dX10_line_83 ?_
              refine lv_aload_n hC.x hC.b dX10_line_86 rfl (lv_at hl 1 rfl) ?_
              refine lv_iload hC.x hC.b dX10_line_87 (lv_at hl 8 rfl) ?_
              refine lv_iload_n hC.x hC.b dX10_line_89 rfl (lv_at hl 2 rfl) ?_
              refine goip (runV (As := [.int t, .int pl]) (rest := [.ref (G.2.1 54)]) hC hK hR hl.1 (c_X10_at l hG s1 t1 t t.toInt.toNat rfl pl q (by first | rfl | (rw [show pl.toInt = pl.toInt from rfl]; done) | (rw [show pl.toInt = pl.toInt from rfl]; exact hp_q)) (by omega) (by omega)) (call_b hC.ts TC_X10_at TN_X10 TM_X10_140 hd_X10_at ⟨Nat.le_of_ble_eq_true rfl, Nat.le_of_ble_eq_true rfl⟩) TI_X10_at TS_X10_at (ct_model G _ _) rfl rfl rfl (Nat.le_of_ble_eq_true rfl) dX10_line_90 ⟨Nat.le_of_ble_eq_true rfl, Nat.le_of_ble_eq_true rfl⟩) hS (fun v_77 H locs w_78 hR hS => ?_)
              subst w_78
              refine ald hC hK hR (ct_m_xs G _ _) (nI_T _ (by omega)) (by omega) (by omega) (Int.toNat_natCast _) dX10_line_93 ?_
              have rd_79 : (s1 54 (24 * t.toInt.toNat + q)).toInt = (σ 54 (24 * t.toInt.toNat + q)).toInt := congrArg Int32.toInt (show s1 54 (24 * t.toInt.toNat + q) = σ 54 (24 * t.toInt.toNat + q) from congrFun (hi2_29.1 54 (by omega) (by first | omega | (dsimp only; omega) | (intro h; exact h))) (24 * t.toInt.toNat + q))
              refine lv_i2l hC.x hC.b dX10_line_94 rfl ?_
              refine lv_aload_n hC.x hC.b dX10_line_95 rfl (lv_at hl 1 rfl) ?_
              refine rget hC hK hR (ct_model G _ _) rfl uin_X10 18 (by decide) TF_X10_65 rfl dX10_line_96 ?_
              refine lv_aload_n hC.x hC.b dX10_line_99 rfl (lv_at hl 1 rfl) ?_
              refine lv_iload hC.x hC.b dX10_line_100 (lv_at hl 8 rfl) ?_
              refine lv_iconst (v := 1) hC.x hC.b dX10_line_102 (by decide) ?_
              refine lv_isub hC.x hC.b dX10_line_103 ?_
              have pr_80 : (t - (1 : Int32)).toInt = (t.toInt - 1) := subI rfl rfl (by omega) (by omega)
              refine lv_iload_n hC.x hC.b dX10_line_104 rfl (lv_at hl 2 rfl) ?_
              have av_81 : (t - (1 : Int32)).toInt = (t.toInt - 1) := pr_80
              refine goip (runV (As := [.int (t - (1 : Int32)), .int pl]) (rest := [.ref (G.2.1 54), .long ((s1 54 (24 * t.toInt.toNat + q)).toInt64)]) hC hK hR hl.1 (c_X10_at l hG s1 t1 (t - (1 : Int32)) ((t.toInt - 1).toNat) (by first | rfl | (rw [show (t - (1 : Int32)).toInt = (t.toInt - 1) from pr_80]; done) | (rw [show (t - (1 : Int32)).toInt = (t.toInt - 1) from pr_80]; exact rfl)) pl q (by first | rfl | (rw [show pl.toInt = pl.toInt from rfl]; done) | (rw [show pl.toInt = pl.toInt from rfl]; exact hp_q)) (by omega) (by omega)) (call_b hC.ts TC_X10_at TN_X10 TM_X10_140 hd_X10_at ⟨Nat.le_of_ble_eq_true rfl, Nat.le_of_ble_eq_true rfl⟩) TI_X10_at TS_X10_at (ct_model G _ _) rfl rfl rfl (Nat.le_of_ble_eq_true rfl) dX10_line_105 ⟨Nat.le_of_ble_eq_true rfl, Nat.le_of_ble_eq_true rfl⟩) hS (fun v_82 H locs w_83 hR hS => ?_)
              subst w_83
              refine ald hC hK hR (ct_m_xs G _ _) (nI_T _ (by omega)) (by omega) (by omega) (Int.toNat_natCast _) dX10_line_108 ?_
              have rd_84 : (s1 54 (24 * ((t.toInt - 1).toNat) + q)).toInt = (σ 54 (24 * ((t.toInt - 1).toNat) + q)).toInt := congrArg Int32.toInt (show s1 54 (24 * ((t.toInt - 1).toNat) + q) = σ 54 (24 * ((t.toInt - 1).toNat) + q) from congrFun (hi2_29.1 54 (by omega) (by first | omega | (dsimp only; omega) | (intro h; exact h))) (24 * ((t.toInt - 1).toNat) + q))
              refine lv_i2l hC.x hC.b dX10_line_109 rfl ?_
              refine lv_lsub hC.x hC.b dX10_line_110 ?_
              refine lv_goto (tgt := 127) hC.x hC.b dX10_line_111 (by decide) ?_
              refine lv_topl (fun x_85 ex_86 => ?_)
              refine lv_lstore (lv' := [(14, .long x_85), (12, .long x_57), (0, .ref (G.2.1 35)), (1, .int pl), (2, .int ga), (3, .long x3), (5, .long x5), (7, .long x7), (9, .long x9), (11, .int t)]) hC.x hC.b dX10_line_127 hl (by decide) rfl (fun ls hl => ?_)
              refine lv_aload_n hC.x hC.b dX10_line_129 rfl (lv_at hl 2 rfl) ?_
              refine lv_dup hC.x hC.b dX10_line_130 rfl ?_
              refine rget hC hK hR (ct_model G _ _) rfl uin_X10 44 (by decide) TF_X10_176 rfl dX10_line_131 ?_
              refine lv_iconst (v := 1) hC.x hC.b dX10_line_134 (by decide) ?_
              refine lv_iadd hC.x hC.b dX10_line_135 ?_
              have pr_87 : ((s1 35 44) + (1 : Int32)).toInt = ((s1 35 44).toInt + 1) := addI rfl rfl (by omega) (by omega)
              refine rputi hC hK hG hR hS (ct_model G _ _) rfl uin_X10 tyX10 tyX10_ok nmX10 44 (by decide) TF_X10_176 rfl (Or.inl rfl) (Nat.le_of_ble_eq_true rfl) rfl (ct_model G _ _) dX10_line_136 (fun s_89 es_88 H locs hR hS => ?_)
              refine lv_lload_n hC.x hC.b dX10_line_139 rfl (lv_at hl 5 rfl) ?_
              refine lv_lload hC.x hC.b dX10_line_140 (lv_at hl 1 rfl) ?_
              refine lv_ladd hC.x hC.b dX10_line_142 ?_
              have pr_90 : (x3 + x_57).toInt = (x3.toInt + (t.toInt - (s1 35 29).toInt)) := addL rfl pr_59 (by omega) (by omega)
              refine lv_lstore_n (lv' := [(3, .long (x3 + x_57)), (14, .long x_85), (12, .long x_57), (0, .ref (G.2.1 35)), (1, .int pl), (2, .int ga), (5, .long x5), (7, .long x7), (9, .long x9), (11, .int t)]) hC.x hC.b dX10_line_143 rfl hl (by decide) rfl (fun ls hl => ?_)
              refine lv_lload hC.x hC.b dX10_line_144 (lv_at hl 6 rfl) ?_
              refine lv_lload hC.x hC.b dX10_line_146 (lv_at hl 1 rfl) ?_
              refine lv_ladd hC.x hC.b dX10_line_148 ?_
              refine lv_lstore (lv' := [(5, .long (x5 + x_85)), (3, .long (x3 + x_57)), (14, .long x_85), (12, .long x_57), (0, .ref (G.2.1 35)), (1, .int pl), (2, .int ga), (7, .long x7), (9, .long x9), (11, .int t)]) hC.x hC.b dX10_line_149 hl (by decide) rfl (fun ls hl => ?_)
              refine lv_lload hC.x hC.b dX10_line_151 (lv_at hl 7 rfl) ?_
              refine lv_lload hC.x hC.b dX10_line_153 (lv_at hl 3 rfl) ?_
              refine lv_lload hC.x hC.b dX10_line_155 (lv_at hl 3 rfl) ?_
              have htt := sqle (m := (t.toInt - (s1 35 29).toInt)) (B := 12) (by omega) (by omega)
              refine lv_lmul hC.x hC.b dX10_line_157 ?_
              have pr_91 : (x_57 * x_57).toInt = ((t.toInt - (s1 35 29).toInt) * (t.toInt - (s1 35 29).toInt)) := mulL pr_59 pr_59 (by omega) (by omega)
              refine lv_ladd hC.x hC.b dX10_line_158 ?_
              have pr_92 : (x7 + (x_57 * x_57)).toInt = (x7.toInt + ((t.toInt - (s1 35 29).toInt) * (t.toInt - (s1 35 29).toInt))) := addL rfl pr_91 (by omega) (by omega)
              refine lv_lstore (lv' := [(7, .long (x7 + (x_57 * x_57))), (5, .long (x5 + x_85)), (3, .long (x3 + x_57)), (14, .long x_85), (12, .long x_57), (0, .ref (G.2.1 35)), (1, .int pl), (2, .int ga), (9, .long x9), (11, .int t)]) hC.x hC.b dX10_line_159 hl (by decide) rfl (fun ls hl => ?_)
              refine lv_lload hC.x hC.b dX10_line_161 (lv_at hl 8 rfl) ?_
              refine lv_lload hC.x hC.b dX10_line_163 (lv_at hl 4 rfl) ?_
              refine lv_lload hC.x hC.b dX10_line_165 (lv_at hl 3 rfl) ?_
              refine lv_lmul hC.x hC.b dX10_line_167 ?_
              refine lv_ladd hC.x hC.b dX10_line_168 ?_
              refine lv_lstore (lv' := [(9, .long (x9 + (x_57 * x_85))), (7, .long (x7 + (x_57 * x_57))), (5, .long (x5 + x_85)), (3, .long (x3 + x_57)), (14, .long x_85), (12, .long x_57), (0, .ref (G.2.1 35)), (1, .int pl), (2, .int ga), (11, .int t)]) hC.x hC.b dX10_line_169 hl (by decide) rfl (fun ls hl => ?_)
              obtain ⟨x_93, ex_94⟩ : ∃ y : Int32, y = t + 1 := ⟨_, rfl⟩
              have pr_95 : x_93.toInt = t.toInt + (1) := by rw [ex_94]; exact addI rfl rfl (by omega) (by omega)
              refine lv_iinc (v := x_93) (lv' := [(11, .int x_93), (9, .long (x9 + (x_57 * x_85))), (7, .long (x7 + (x_57 * x_57))), (5, .long (x5 + x_85)), (3, .long (x3 + x_57)), (14, .long x_85), (12, .long x_57), (0, .ref (G.2.1 35)), (1, .int pl), (2, .int ga)]) hC.x hC.b dX10_line_171 hl (k := 9) rfl ex_94.symm (by decide) rfl (fun ls hl => ?_)
              refine lv_goto (tgt := 29) hC.x hC.b dX10_line_174 (by decide) ?_
              have rd_96 : (s_89 35 44).toInt = ((s1 35 44) + (1 : Int32)).toInt := congrArg Int32.toInt (show s_89 35 44 = ((s1 35 44) + (1 : Int32)) from (by rw [es_88]; exact up2_s))
              exact ih_29 (x3 + x_57) (x5 + x_85) (x7 + (x_57 * x_57)) (x9 + (x_57 * x_85)) x_93 s_89 t1 (by omega) (by first | omega | assumption) (by exact LSq.ad hi1_29 (t := (t.toInt - (s1 35 29).toInt)) (by omega) (by omega) (by omega) (by omega) (by omega) (by omega) (by omega)) (by rw [es_88]; exact MRel.upm (hi2_29) (by first | omega | (dsimp only; omega))) _ _ _ hR hS (lv_sub hl [7, 8, 9, 4, 3, 2, 1, 0] rfl)
          · skip
            refine bz_ne (tgt := 68) (a := 0) (b := 0) hC.x hC.b rfl rfl dX10_line_62 (by decide) (fun c_97 => absurd c_97 (by decide)) (fun _ => ?_)
            refine lv_goto (tgt := 171) hC.x hC.b dX10_line_65 (by decide) ?_
            obtain ⟨x_98, ex_99⟩ : ∃ y : Int32, y = t + 1 := ⟨_, rfl⟩
            have pr_100 : x_98.toInt = t.toInt + (1) := by rw [ex_99]; exact addI rfl rfl (by omega) (by omega)
            refine lv_iinc (v := x_98) (lv' := [(11, .int x_98), (0, .ref (G.2.1 35)), (1, .int pl), (2, .int ga), (3, .long x3), (5, .long x5), (7, .long x7), (9, .long x9)]) hC.x hC.b dX10_line_171 hl (k := 7) rfl ex_99.symm (by decide) rfl (fun ls hl => ?_)
            refine lv_goto (tgt := 29) hC.x hC.b dX10_line_174 (by decide) ?_
            exact ih_29 x3 x5 x7 x9 x_98 s1 t1 (by omega) (by first | omega | assumption) (by exact LSq.sk hi1_29 (by omega)) hi2_29 _ _ _ hR hS (lv_sub hl [1, 2, 3, 4, 5, 6, 7, 0] rfl)
        · skip
          refine lv_aload_n hC.x hC.b dX10_line_42 rfl (lv_at hl 0 rfl) ?_
          refine lv_iload hC.x hC.b dX10_line_43 (lv_at hl 7 rfl) ?_
          refine lv_iload_n hC.x hC.b dX10_line_45 rfl (lv_at hl 1 rfl) ?_
          have rd_101 : (s1 35 29).toInt = (σ 35 29).toInt := congrArg Int32.toInt (show s1 35 29 = σ 35 29 from hi2_29.2 29 (by first | omega | (dsimp only; omega)))
          refine goip (runV (As := [.int t, .int pl]) (rest := []) hC hK hR hl.1 (c_X10_isGain l hG s1 t1 t t.toInt.toNat rfl pl q (by first | rfl | (rw [show pl.toInt = pl.toInt from rfl]; done) | (rw [show pl.toInt = pl.toInt from rfl]; exact hp_q)) (by first | assumption | omega) (by omega)) (call_b hC.ts TC_X10_isGain TN_X10 TM_X10_179 hd_X10_isGain ⟨Nat.le_of_ble_eq_true rfl, Nat.le_of_ble_eq_true rfl⟩) TI_X10_isGain TS_X10_isGain (ct_model G _ _) rfl rfl rfl (Nat.le_of_ble_eq_true rfl) dX10_line_46 ⟨Nat.le_of_ble_eq_true rfl, Nat.le_of_ble_eq_true rfl⟩) hS (fun v_102 H locs w_103 hR hS => ?_)
          rcases w_103 with ⟨rfl, f_104, f_105, f_106⟩ | rfl
          · skip
            refine bz_ne (tgt := 68) (a := 1) (b := 0) hC.x hC.b rfl rfl dX10_line_49 (by decide) (fun _ => ?_) (fun c_107 => absurd c_107 (by decide))
            refine lv_iload hC.x hC.b dX10_line_68 (lv_at hl 7 rfl) ?_
            refine lv_aload_n hC.x hC.b dX10_line_70 rfl (lv_at hl 0 rfl) ?_
            refine rget hC hK hR (ct_model G _ _) rfl uin_X10 29 (by decide) TF_X10_137 rfl dX10_line_71 ?_
            have rd_108 : (s1 35 29).toInt = (σ 35 29).toInt := congrArg Int32.toInt (show s1 35 29 = σ 35 29 from hi2_29.2 29 (by first | omega | (dsimp only; omega)))
            refine lv_isub hC.x hC.b dX10_line_74 ?_
            have pr_109 : (t - (s1 35 29)).toInt = (t.toInt - (s1 35 29).toInt) := subI rfl rfl (by omega) (by omega)
            refine lv_i2l hC.x hC.b dX10_line_75 rfl ?_
            refine lv_topl (fun x_110 ex_111 => ?_)
            have pr_112 : x_110.toInt = (t.toInt - (s1 35 29).toInt) := by rw [ex_111]; exact (i2lI pr_109)
            refine lv_lstore (lv' := [(12, .long x_110), (0, .ref (G.2.1 35)), (1, .int pl), (2, .int ga), (3, .long x3), (5, .long x5), (7, .long x7), (9, .long x9), (11, .int t)]) hC.x hC.b dX10_line_76 hl (by decide) rfl (fun ls hl => ?_)
            refine lv_iload_n hC.x hC.b dX10_line_78 rfl (lv_at hl 3 rfl) ?_
            refine bz_eq (tgt := 114) (a := ga.toInt) (b := 0) hC.x hC.b rfl rfl dX10_line_79 (by decide) (fun c_113 => ?_) (fun c_113 => ?_)
            · skip
              refine lv_aload_n hC.x hC.b dX10_line_114 rfl (lv_at hl 1 rfl) ?_
              refine rget hC hK hR (ct_model G _ _) rfl uin_X10 18 (by decide) TF_X10_65 rfl dX10_line_115 ?_
              refine lv_aload_n hC.x hC.b dX10_line_118 rfl (lv_at hl 1 rfl) ?_
              refine lv_iload hC.x hC.b dX10_line_119 (lv_at hl 8 rfl) ?_
              refine lv_iload_n hC.x hC.b dX10_line_121 rfl (lv_at hl 2 rfl) ?_
              refine goip (runV (As := [.int t, .int pl]) (rest := [.ref (G.2.1 54)]) hC hK hR hl.1 (c_X10_at l hG s1 t1 t t.toInt.toNat rfl pl q (by first | rfl | (rw [show pl.toInt = pl.toInt from rfl]; done) | (rw [show pl.toInt = pl.toInt from rfl]; exact hp_q)) (by omega) (by omega)) (call_b hC.ts TC_X10_at TN_X10 TM_X10_140 hd_X10_at ⟨Nat.le_of_ble_eq_true rfl, Nat.le_of_ble_eq_true rfl⟩) TI_X10_at TS_X10_at (ct_model G _ _) rfl rfl rfl (Nat.le_of_ble_eq_true rfl) dX10_line_122 ⟨Nat.le_of_ble_eq_true rfl, Nat.le_of_ble_eq_true rfl⟩) hS (fun v_114 H locs w_115 hR hS => ?_)
              subst w_115
              refine ald hC hK hR (ct_m_xs G _ _) (nI_T _ (by omega)) (by omega) (by omega) (Int.toNat_natCast _) dX10_line_125 ?_
              have rd_116 : (s1 54 (24 * t.toInt.toNat + q)).toInt = (σ 54 (24 * t.toInt.toNat + q)).toInt := congrArg Int32.toInt (show s1 54 (24 * t.toInt.toNat + q) = σ 54 (24 * t.toInt.toNat + q) from congrFun (hi2_29.1 54 (by omega) (by first | omega | (dsimp only; omega) | (intro h; exact h))) (24 * t.toInt.toNat + q))
              refine lv_i2l hC.x hC.b dX10_line_126 rfl ?_
              refine lv_topl (fun x_117 ex_118 => ?_)
              have pr_119 : x_117.toInt = (s1 54 (24 * t.toInt.toNat + q)).toInt := by rw [ex_118]; exact (i2lI rfl)
              refine lv_lstore (lv' := [(14, .long x_117), (12, .long x_110), (0, .ref (G.2.1 35)), (1, .int pl), (2, .int ga), (3, .long x3), (5, .long x5), (7, .long x7), (9, .long x9), (11, .int t)]) hC.x hC.b dX10_line_127 hl (by decide) rfl (fun ls hl => ?_)
              refine lv_aload_n hC.x hC.b dX10_line_129 rfl (lv_at hl 2 rfl) ?_
              refine lv_dup hC.x hC.b dX10_line_130 rfl ?_
              refine rget hC hK hR (ct_model G _ _) rfl uin_X10 44 (by decide) TF_X10_176 rfl dX10_line_131 ?_
              refine lv_iconst (v := 1) hC.x hC.b dX10_line_134 (by decide) ?_
              refine lv_iadd hC.x hC.b dX10_line_135 ?_
              have pr_120 : ((s1 35 44) + (1 : Int32)).toInt = ((s1 35 44).toInt + 1) := addI rfl rfl (by omega) (by omega)
              refine rputi hC hK hG hR hS (ct_model G _ _) rfl uin_X10 tyX10 tyX10_ok nmX10 44 (by decide) TF_X10_176 rfl (Or.inl rfl) (Nat.le_of_ble_eq_true rfl) rfl (ct_model G _ _) dX10_line_136 (fun s_122 es_121 H locs hR hS => ?_)
              refine lv_lload_n hC.x hC.b dX10_line_139 rfl (lv_at hl 5 rfl) ?_
              refine lv_lload hC.x hC.b dX10_line_140 (lv_at hl 1 rfl) ?_
              refine lv_ladd hC.x hC.b dX10_line_142 ?_
              have pr_123 : (x3 + x_110).toInt = (x3.toInt + (t.toInt - (s1 35 29).toInt)) := addL rfl pr_112 (by omega) (by omega)
              refine lv_lstore_n (lv' := [(3, .long (x3 + x_110)), (14, .long x_117), (12, .long x_110), (0, .ref (G.2.1 35)), (1, .int pl), (2, .int ga), (5, .long x5), (7, .long x7), (9, .long x9), (11, .int t)]) hC.x hC.b dX10_line_143 rfl hl (by decide) rfl (fun ls hl => ?_)
              refine lv_lload hC.x hC.b dX10_line_144 (lv_at hl 6 rfl) ?_
              refine lv_lload hC.x hC.b dX10_line_146 (lv_at hl 1 rfl) ?_
              refine lv_ladd hC.x hC.b dX10_line_148 ?_
              refine lv_lstore (lv' := [(5, .long (x5 + x_117)), (3, .long (x3 + x_110)), (14, .long x_117), (12, .long x_110), (0, .ref (G.2.1 35)), (1, .int pl), (2, .int ga), (7, .long x7), (9, .long x9), (11, .int t)]) hC.x hC.b dX10_line_149 hl (by decide) rfl (fun ls hl => ?_)
              refine lv_lload hC.x hC.b dX10_line_151 (lv_at hl 7 rfl) ?_
              refine lv_lload hC.x hC.b dX10_line_153 (lv_at hl 3 rfl) ?_
              refine lv_lload hC.x hC.b dX10_line_155 (lv_at hl 3 rfl) ?_
              have htt := sqle (m := (t.toInt - (s1 35 29).toInt)) (B := 12) (by omega) (by omega)
              refine lv_lmul hC.x hC.b dX10_line_157 ?_
              have pr_124 : (x_110 * x_110).toInt = ((t.toInt - (s1 35 29).toInt) * (t.toInt - (s1 35 29).toInt)) := mulL pr_112 pr_112 (by omega) (by omega)
              refine lv_ladd hC.x hC.b dX10_line_158 ?_
              have pr_125 : (x7 + (x_110 * x_110)).toInt = (x7.toInt + ((t.toInt - (s1 35 29).toInt) * (t.toInt - (s1 35 29).toInt))) := addL rfl pr_124 (by omega) (by omega)
              refine lv_lstore (lv' := [(7, .long (x7 + (x_110 * x_110))), (5, .long (x5 + x_117)), (3, .long (x3 + x_110)), (14, .long x_117), (12, .long x_110), (0, .ref (G.2.1 35)), (1, .int pl), (2, .int ga), (9, .long x9), (11, .int t)]) hC.x hC.b dX10_line_159 hl (by decide) rfl (fun ls hl => ?_)
              refine lv_lload hC.x hC.b dX10_line_161 (lv_at hl 8 rfl) ?_
              refine lv_lload hC.x hC.b dX10_line_163 (lv_at hl 4 rfl) ?_
              refine lv_lload hC.x hC.b dX10_line_165 (lv_at hl 3 rfl) ?_
              refine lv_lmul hC.x hC.b dX10_line_167 ?_
              refine lv_ladd hC.x hC.b dX10_line_168 ?_
              refine lv_lstore (lv' := [(9, .long (x9 + (x_110 * x_117))), (7, .long (x7 + (x_110 * x_110))), (5, .long (x5 + x_117)), (3, .long (x3 + x_110)), (14, .long x_117), (12, .long x_110), (0, .ref (G.2.1 35)), (1, .int pl), (2, .int ga), (11, .int t)]) hC.x hC.b dX10_line_169 hl (by decide) rfl (fun ls hl => ?_)
              obtain ⟨x_126, ex_127⟩ : ∃ y : Int32, y = t + 1 := ⟨_, rfl⟩
              have pr_128 : x_126.toInt = t.toInt + (1) := by rw [ex_127]; exact addI rfl rfl (by omega) (by omega)
              refine lv_iinc (v := x_126) (lv' := [(11, .int x_126), (9, .long (x9 + (x_110 * x_117))), (7, .long (x7 + (x_110 * x_110))), (5, .long (x5 + x_117)), (3, .long (x3 + x_110)), (14, .long x_117), (12, .long x_110), (0, .ref (G.2.1 35)), (1, .int pl), (2, .int ga)]) hC.x hC.b dX10_line_171 hl (k := 9) rfl ex_127.symm (by decide) rfl (fun ls hl => ?_)
              refine lv_goto (tgt := 29) hC.x hC.b dX10_line_174 (by decide) ?_
              have rd_129 : (s_122 35 44).toInt = ((s1 35 44) + (1 : Int32)).toInt := congrArg Int32.toInt (show s_122 35 44 = ((s1 35 44) + (1 : Int32)) from (by rw [es_121]; exact up2_s))
              exact ih_29 (x3 + x_110) (x5 + x_117) (x7 + (x_110 * x_110)) (x9 + (x_110 * x_117)) x_126 s_122 t1 (by omega) (by first | omega | assumption) (by exact LSq.ad hi1_29 (t := (t.toInt - (s1 35 29).toInt)) (by omega) (by omega) (by omega) (by omega) (by omega) (by omega) (by omega)) (by rw [es_121]; exact MRel.upm (hi2_29) (by first | omega | (dsimp only; omega))) _ _ _ hR hS (lv_sub hl [7, 8, 9, 4, 3, 2, 1, 0] rfl)
            · skip
              refine lv_aload_n hC.x hC.b dX10_line_82 rfl (lv_at hl 1 rfl) ?_
              refine rget hC hK hR (ct_model G _ _) rfl uin_X10 18 (by decide) TF_X10_65 rfl dX10_line_83 ?_
              refine lv_aload_n hC.x hC.b dX10_line_86 rfl (lv_at hl 1 rfl) ?_
              refine lv_iload hC.x hC.b dX10_line_87 (lv_at hl 8 rfl) ?_
              refine lv_iload_n hC.x hC.b dX10_line_89 rfl (lv_at hl 2 rfl) ?_
              refine goip (runV (As := [.int t, .int pl]) (rest := [.ref (G.2.1 54)]) hC hK hR hl.1 (c_X10_at l hG s1 t1 t t.toInt.toNat rfl pl q (by first | rfl | (rw [show pl.toInt = pl.toInt from rfl]; done) | (rw [show pl.toInt = pl.toInt from rfl]; exact hp_q)) (by omega) (by omega)) (call_b hC.ts TC_X10_at TN_X10 TM_X10_140 hd_X10_at ⟨Nat.le_of_ble_eq_true rfl, Nat.le_of_ble_eq_true rfl⟩) TI_X10_at TS_X10_at (ct_model G _ _) rfl rfl rfl (Nat.le_of_ble_eq_true rfl) dX10_line_90 ⟨Nat.le_of_ble_eq_true rfl, Nat.le_of_ble_eq_true rfl⟩) hS (fun v_130 H locs w_131 hR hS => ?_)
              subst w_131
              refine ald hC hK hR (ct_m_xs G _ _) (nI_T _ (by omega)) (by omega) (by omega) (Int.toNat_natCast _) dX10_line_93 ?_
              have rd_132 : (s1 54 (24 * t.toInt.toNat + q)).toInt = (σ 54 (24 * t.toInt.toNat + q)).toInt := congrArg Int32.toInt (show s1 54 (24 * t.toInt.toNat + q) = σ 54 (24 * t.toInt.toNat + q) from congrFun (hi2_29.1 54 (by omega) (by first | omega | (dsimp only; omega) | (intro h; exact h))) (24 * t.toInt.toNat + q))
              refine lv_i2l hC.x hC.b dX10_line_94 rfl ?_
              refine lv_aload_n hC.x hC.b dX10_line_95 rfl (lv_at hl 1 rfl) ?_
              refine rget hC hK hR (ct_model G _ _) rfl uin_X10 18 (by decide) TF_X10_65 rfl dX10_line_96 ?_
              refine lv_aload_n hC.x hC.b dX10_line_99 rfl (lv_at hl 1 rfl) ?_
              refine lv_iload hC.x hC.b dX10_line_100 (lv_at hl 8 rfl) ?_
              refine lv_iconst (v := 1) hC.x hC.b dX10_line_102 (by decide) ?_
              refine lv_isub hC.x hC.b dX10_line_103 ?_
              have pr_133 : (t - (1 : Int32)).toInt = (t.toInt - 1) := subI rfl rfl (by omega) (by omega)
              refine lv_iload_n hC.x hC.b dX10_line_104 rfl (lv_at hl 2 rfl) ?_
              have av_134 : (t - (1 : Int32)).toInt = (t.toInt - 1) := pr_133
              refine goip (runV (As := [.int (t - (1 : Int32)), .int pl]) (rest := [.ref (G.2.1 54), .long ((s1 54 (24 * t.toInt.toNat + q)).toInt64)]) hC hK hR hl.1 (c_X10_at l hG s1 t1 (t - (1 : Int32)) ((t.toInt - 1).toNat) (by first | rfl | (rw [show (t - (1 : Int32)).toInt = (t.toInt - 1) from pr_133]; done) | (rw [show (t - (1 : Int32)).toInt = (t.toInt - 1) from pr_133]; exact rfl)) pl q (by first | rfl | (rw [show pl.toInt = pl.toInt from rfl]; done) | (rw [show pl.toInt = pl.toInt from rfl]; exact hp_q)) (by omega) (by omega)) (call_b hC.ts TC_X10_at TN_X10 TM_X10_140 hd_X10_at ⟨Nat.le_of_ble_eq_true rfl, Nat.le_of_ble_eq_true rfl⟩) TI_X10_at TS_X10_at (ct_model G _ _) rfl rfl rfl (Nat.le_of_ble_eq_true rfl) dX10_line_105 ⟨Nat.le_of_ble_eq_true rfl, Nat.le_of_ble_eq_true rfl⟩) hS (fun v_135 H locs w_136 hR hS => ?_)
              subst w_136
              refine ald hC hK hR (ct_m_xs G _ _) (nI_T _ (by omega)) (by omega) (by omega) (Int.toNat_natCast _) dX10_line_108 ?_
              have rd_137 : (s1 54 (24 * ((t.toInt - 1).toNat) + q)).toInt = (σ 54 (24 * ((t.toInt - 1).toNat) + q)).toInt := congrArg Int32.toInt (show s1 54 (24 * ((t.toInt - 1).toNat) + q) = σ 54 (24 * ((t.toInt - 1).toNat) + q) from congrFun (hi2_29.1 54 (by omega) (by first | omega | (dsimp only; omega) | (intro h; exact h))) (24 * ((t.toInt - 1).toNat) + q))
              refine lv_i2l hC.x hC.b dX10_line_109 rfl ?_
              refine lv_lsub hC.x hC.b dX10_line_110 ?_
              refine lv_goto (tgt := 127) hC.x hC.b dX10_line_111 (by decide) ?_
              refine lv_topl (fun x_138 ex_139 => ?_)
              refine lv_lstore (lv' := [(14, .long x_138), (12, .long x_110), (0, .ref (G.2.1 35)), (1, .int pl), (2, .int ga), (3, .long x3), (5, .long x5), (7, .long x7), (9, .long x9), (11, .int t)]) hC.x hC.b dX10_line_127 hl (by decide) rfl (fun ls hl => ?_)
              refine lv_aload_n hC.x hC.b dX10_line_129 rfl (lv_at hl 2 rfl) ?_
              refine lv_dup hC.x hC.b dX10_line_130 rfl ?_
              refine rget hC hK hR (ct_model G _ _) rfl uin_X10 44 (by decide) TF_X10_176 rfl dX10_line_131 ?_
              refine lv_iconst (v := 1) hC.x hC.b dX10_line_134 (by decide) ?_
              refine lv_iadd hC.x hC.b dX10_line_135 ?_
              have pr_140 : ((s1 35 44) + (1 : Int32)).toInt = ((s1 35 44).toInt + 1) := addI rfl rfl (by omega) (by omega)
              refine rputi hC hK hG hR hS (ct_model G _ _) rfl uin_X10 tyX10 tyX10_ok nmX10 44 (by decide) TF_X10_176 rfl (Or.inl rfl) (Nat.le_of_ble_eq_true rfl) rfl (ct_model G _ _) dX10_line_136 (fun s_142 es_141 H locs hR hS => ?_)
              refine lv_lload_n hC.x hC.b dX10_line_139 rfl (lv_at hl 5 rfl) ?_
              refine lv_lload hC.x hC.b dX10_line_140 (lv_at hl 1 rfl) ?_
              refine lv_ladd hC.x hC.b dX10_line_142 ?_
              have pr_143 : (x3 + x_110).toInt = (x3.toInt + (t.toInt - (s1 35 29).toInt)) := addL rfl pr_112 (by omega) (by omega)
              refine lv_lstore_n (lv' := [(3, .long (x3 + x_110)), (14, .long x_138), (12, .long x_110), (0, .ref (G.2.1 35)), (1, .int pl), (2, .int ga), (5, .long x5), (7, .long x7), (9, .long x9), (11, .int t)]) hC.x hC.b dX10_line_143 rfl hl (by decide) rfl (fun ls hl => ?_)
              refine lv_lload hC.x hC.b dX10_line_144 (lv_at hl 6 rfl) ?_
              refine lv_lload hC.x hC.b dX10_line_146 (lv_at hl 1 rfl) ?_
              refine lv_ladd hC.x hC.b dX10_line_148 ?_
              refine lv_lstore (lv' := [(5, .long (x5 + x_138)), (3, .long (x3 + x_110)), (14, .long x_138), (12, .long x_110), (0, .ref (G.2.1 35)), (1, .int pl), (2, .int ga), (7, .long x7), (9, .long x9), (11, .int t)]) hC.x hC.b dX10_line_149 hl (by decide) rfl (fun ls hl => ?_)
              refine lv_lload hC.x hC.b dX10_line_151 (lv_at hl 7 rfl) ?_
              refine lv_lload hC.x hC.b dX10_line_153 (lv_at hl 3 rfl) ?_
              refine lv_lload hC.x hC.b dX10_line_155 (lv_at hl 3 rfl) ?_
              have htt := sqle (m := (t.toInt - (s1 35 29).toInt)) (B := 12) (by omega) (by omega)
              refine lv_lmul hC.x hC.b dX10_line_157 ?_
              have pr_144 : (x_110 * x_110).toInt = ((t.toInt - (s1 35 29).toInt) * (t.toInt - (s1 35 29).toInt)) := mulL pr_112 pr_112 (by omega) (by omega)
              refine lv_ladd hC.x hC.b dX10_line_158 ?_
              have pr_145 : (x7 + (x_110 * x_110)).toInt = (x7.toInt + ((t.toInt - (s1 35 29).toInt) * (t.toInt - (s1 35 29).toInt))) := addL rfl pr_144 (by omega) (by omega)
              refine lv_lstore (lv' := [(7, .long (x7 + (x_110 * x_110))), (5, .long (x5 + x_138)), (3, .long (x3 + x_110)), (14, .long x_138), (12, .long x_110), (0, .ref (G.2.1 35)), (1, .int pl), (2, .int ga), (9, .long x9), (11, .int t)]) hC.x hC.b dX10_line_159 hl (by decide) rfl (fun ls hl => ?_)
              refine lv_lload hC.x hC.b dX10_line_161 (lv_at hl 8 rfl) ?_
              refine lv_lload hC.x hC.b dX10_line_163 (lv_at hl 4 rfl) ?_
              refine lv_lload hC.x hC.b dX10_line_165 (lv_at hl 3 rfl) ?_
              refine lv_lmul hC.x hC.b dX10_line_167 ?_
              refine lv_ladd hC.x hC.b dX10_line_168 ?_
              refine lv_lstore (lv' := [(9, .long (x9 + (x_110 * x_138))), (7, .long (x7 + (x_110 * x_110))), (5, .long (x5 + x_138)), (3, .long (x3 + x_110)), (14, .long x_138), (12, .long x_110), (0, .ref (G.2.1 35)), (1, .int pl), (2, .int ga), (11, .int t)]) hC.x hC.b dX10_line_169 hl (by decide) rfl (fun ls hl => ?_)
              obtain ⟨x_146, ex_147⟩ : ∃ y : Int32, y = t + 1 := ⟨_, rfl⟩
              have pr_148 : x_146.toInt = t.toInt + (1) := by rw [ex_147]; exact addI rfl rfl (by omega) (by omega)
              refine lv_iinc (v := x_146) (lv' := [(11, .int x_146), (9, .long (x9 + (x_110 * x_138))), (7, .long (x7 + (x_110 * x_110))), (5, .long (x5 + x_138)), (3, .long (x3 + x_110)), (14, .long x_138), (12, .long x_110), (0, .ref (G.2.1 35)), (1, .int pl), (2, .int ga)]) hC.x hC.b dX10_line_171 hl (k := 9) rfl ex_147.symm (by decide) rfl (fun ls hl => ?_)
              refine lv_goto (tgt := 29) hC.x hC.b dX10_line_174 (by decide) ?_
              have rd_149 : (s_142 35 44).toInt = ((s1 35 44) + (1 : Int32)).toInt := congrArg Int32.toInt (show s_142 35 44 = ((s1 35 44) + (1 : Int32)) from (by rw [es_141]; exact up2_s))
              exact ih_29 (x3 + x_110) (x5 + x_138) (x7 + (x_110 * x_110)) (x9 + (x_110 * x_138)) x_146 s_142 t1 (by omega) (by first | omega | assumption) (by exact LSq.ad hi1_29 (t := (t.toInt - (s1 35 29).toInt)) (by omega) (by omega) (by omega) (by omega) (by omega) (by omega) (by omega)) (by rw [es_141]; exact MRel.upm (hi2_29) (by first | omega | (dsimp only; omega))) _ _ _ hR hS (lv_sub hl [7, 8, 9, 4, 3, 2, 1, 0] rfl)
          · skip
            refine bz_ne (tgt := 68) (a := 0) (b := 0) hC.x hC.b rfl rfl dX10_line_49 (by decide) (fun c_150 => absurd c_150 (by decide)) (fun _ => ?_)
            refine lv_goto (tgt := 171) hC.x hC.b dX10_line_52 (by decide) ?_
            obtain ⟨x_151, ex_152⟩ : ∃ y : Int32, y = t + 1 := ⟨_, rfl⟩
            have pr_153 : x_151.toInt = t.toInt + (1) := by rw [ex_152]; exact addI rfl rfl (by omega) (by omega)
            refine lv_iinc (v := x_151) (lv' := [(11, .int x_151), (0, .ref (G.2.1 35)), (1, .int pl), (2, .int ga), (3, .long x3), (5, .long x5), (7, .long x7), (9, .long x9)]) hC.x hC.b dX10_line_171 hl (k := 7) rfl ex_152.symm (by decide) rfl (fun ls hl => ?_)
            refine lv_goto (tgt := 29) hC.x hC.b dX10_line_174 (by decide) ?_
            exact ih_29 x3 x5 x7 x9 x_151 s1 t1 (by omega) (by first | omega | assumption) (by exact LSq.sk hi1_29 (by omega)) hi2_29 _ _ _ hR hS (lv_sub hl [1, 2, 3, 4, 5, 6, 7, 0] rfl)
  have rd_154 : (s_2 35 44).toInt = 0 := (congrArg Int32.toInt (show s_2 35 44 = (0 : Int32) from (by rw [es_1]; exact up2_s))).trans (by decide)
  exact L_29 _ (0 : Int64) (0 : Int64) (0 : Int64) (0 : Int64) x_6 s_2 τ (Nat.lt_succ_self _) (by first | omega | assumption) (by exact LSq.st (by omega) (by omega) (by first | decide | omega) (by first | decide | omega)) (by rw [es_1]; exact MRel.upm (MRel.rf) (by first | omega | (dsimp only; omega))) _ _ _ hR hS (lv_sub hl [5, 6, 7, 4, 3, 2, 1, 0] rfl)

abbrev po_X10_foretold (σ : SI) (τ : SL) (pl : Int32) (q : Nat) : Int32 → SI × SL → Prop := fun v u => ((MRel (fun _ => False) (fun j => j = 44) σ u.1))
set_option maxRecDepth 100000 in
set_option maxHeartbeats 4000000 in
theorem c_X10_foretold (l : Launch) {G : Gx} {A : Nat → Prop} (hG : GOk G A) (σ : SI) (τ : SL) (pl : Int32) (q : Nat) (hp_q : pl.toInt.toNat = q) (hnw : 0 ≤ (σ 35 29).toInt ∧ (σ 35 29).toInt ≤ 200) (hin : 0 ≤ pl.toInt ∧ pl.toInt < 24) (ho : 2 ≤ (σ 37 q).toInt ∧ (σ 37 q).toInt ≤ 12) : MI l G A 4 yX10_foretold cX10_foretold 5 (some .int) [.ref (G.2.1 35), .int pl] (σ, τ) (po_X10_foretold σ τ pl q) := by
  refine met_of (own := RX10) (by decide +kernel) rfl [(0, .ref (G.2.1 35)), (1, .int pl)] rfl (Nat.le_of_ble_eq_true rfl) ?_
  intro p e s m args below meth c ls hC hK hR hl
  have hS : va_S A s.heap s.heap [] := va_S.rf
  refine lv_aload_n hC.x hC.b dX10_foretold_0 rfl (lv_at hl 0 rfl) ?_
  refine lv_iload_n hC.x hC.b dX10_foretold_1 rfl (lv_at hl 1 rfl) ?_
  refine goip (runV (As := [.int pl]) (rest := []) hC hK hR hl.1 (c_X10_byGains l hG σ τ pl q (by first | rfl | (rw [show pl.toInt = pl.toInt from rfl]; done) | (rw [show pl.toInt = pl.toInt from rfl]; exact hp_q)) (by first | assumption | omega) (by omega)) (call_b hC.ts TC_X10_byGains TN_X10 TM_X10_196 hd_X10_byGains ⟨Nat.le_of_ble_eq_true rfl, Nat.le_of_ble_eq_true rfl⟩) TI_X10_byGains TS_X10_byGains (ct_model G _ _) rfl rfl rfl (Nat.le_of_ble_eq_true rfl) dX10_foretold_2 ⟨Nat.le_of_ble_eq_true rfl, Nat.le_of_ble_eq_true rfl⟩) hS (fun v_1 H locs w_2 hR hS => ?_)
  rcases w_2 with ⟨rfl, f_3⟩ | rfl
  · skip
    refine lv_istore_n (lv' := [(2, .int (1 : Int32)), (0, .ref (G.2.1 35)), (1, .int pl)]) hC.x hC.b dX10_foretold_5 rfl hl (by decide) rfl (fun ls hl => ?_)
    refine lv_aload_n hC.x hC.b dX10_foretold_6 rfl (lv_at hl 1 rfl) ?_
    refine lv_iload_n hC.x hC.b dX10_foretold_7 rfl (lv_at hl 2 rfl) ?_
    refine lv_iload_n hC.x hC.b dX10_foretold_8 rfl (lv_at hl 0 rfl) ?_
    have av_4 : (1 : Int32).toInt = 1 := by decide
    refine gov (runV (As := [.int pl, .int (1 : Int32)]) (rest := []) hC hK hR hl.1 (c_X10_line l hG σ τ pl q (by first | rfl | (rw [show pl.toInt = pl.toInt from rfl]; done) | (rw [show pl.toInt = pl.toInt from rfl]; exact hp_q)) (1 : Int32) (by first | assumption | omega) (by omega) (by first | assumption | omega)) (call_b hC.ts TC_X10_line TN_X10 TM_X10_199 hd_X10_line ⟨Nat.le_of_ble_eq_true rfl, Nat.le_of_ble_eq_true rfl⟩) TI_X10_line TS_X10_line (ct_model G _ _) rfl rfl rfl (Nat.le_of_ble_eq_true rfl) dX10_foretold_9 ⟨Nat.le_of_ble_eq_true rfl, Nat.le_of_ble_eq_true rfl⟩) hS (fun s_7 t_8 H locs w_6 hR hS => ?_)
    try dsimp only [po_X10_line] at w_6
    obtain ⟨f_9, f_10⟩ := w_6
    refine lv_aload_n hC.x hC.b dX10_foretold_12 rfl (lv_at hl 1 rfl) ?_
    refine rget hC hK hR (ct_model G _ _) rfl uin_X10 44 (by decide) TF_X10_176 rfl dX10_foretold_13 ?_
    refine bz_ne (tgt := 22) (a := (s_7 35 44).toInt) (b := 0) hC.x hC.b rfl rfl dX10_foretold_16 (by decide) (fun c_11 => ?_) (fun c_11 => ?_)
    · skip
      refine lv_iload_n hC.x hC.b dX10_foretold_22 rfl (lv_at hl 0 rfl) ?_
      refine bz_eq (tgt := 51) (a := 1) (b := 0) hC.x hC.b rfl rfl dX10_foretold_23 (by decide) (fun c_12 => absurd c_12 (by decide)) (fun _ => ?_)
      refine lv_aload_n hC.x hC.b dX10_foretold_26 rfl (lv_at hl 1 rfl) ?_
      refine rget hC hK hR (ct_model G _ _) rfl uin_X10 18 (by decide) TF_X10_65 rfl dX10_foretold_27 ?_
      refine lv_aload_n hC.x hC.b dX10_foretold_30 rfl (lv_at hl 1 rfl) ?_
      refine lv_aload_n hC.x hC.b dX10_foretold_31 rfl (lv_at hl 1 rfl) ?_
      refine rget hC hK hR (ct_model G _ _) rfl uin_X10 29 (by decide) TF_X10_137 rfl dX10_foretold_32 ?_
      have rd_13 : (s_7 35 29).toInt = (σ 35 29).toInt := congrArg Int32.toInt (show s_7 35 29 = σ 35 29 from f_9.2 29 (by first | omega | (dsimp only; omega)))
      refine lv_iconst (v := 1) hC.x hC.b dX10_foretold_35 (by decide) ?_
      refine lv_isub hC.x hC.b dX10_foretold_36 ?_
      have pr_14 : ((s_7 35 29) - (1 : Int32)).toInt = ((s_7 35 29).toInt - 1) := subI rfl rfl (by omega) (by omega)
      refine lv_iload_n hC.x hC.b dX10_foretold_37 rfl (lv_at hl 2 rfl) ?_
      have av_15 : ((s_7 35 29) - (1 : Int32)).toInt = ((s_7 35 29).toInt - 1) := pr_14
      refine goip (runV (As := [.int ((s_7 35 29) - (1 : Int32)), .int pl]) (rest := [.ref (G.2.1 54)]) hC hK hR hl.1 (c_X10_at l hG s_7 t_8 ((s_7 35 29) - (1 : Int32)) (((s_7 35 29).toInt - 1).toNat) (by first | rfl | (rw [show ((s_7 35 29) - (1 : Int32)).toInt = ((s_7 35 29).toInt - 1) from pr_14]; done) | (rw [show ((s_7 35 29) - (1 : Int32)).toInt = ((s_7 35 29).toInt - 1) from pr_14]; exact rfl)) pl q (by first | rfl | (rw [show pl.toInt = pl.toInt from rfl]; done) | (rw [show pl.toInt = pl.toInt from rfl]; exact hp_q)) (by omega) (by omega)) (call_b hC.ts TC_X10_at TN_X10 TM_X10_140 hd_X10_at ⟨Nat.le_of_ble_eq_true rfl, Nat.le_of_ble_eq_true rfl⟩) TI_X10_at TS_X10_at (ct_model G _ _) rfl rfl rfl (Nat.le_of_ble_eq_true rfl) dX10_foretold_38 ⟨Nat.le_of_ble_eq_true rfl, Nat.le_of_ble_eq_true rfl⟩) hS (fun v_16 H locs w_17 hR hS => ?_)
      subst w_17
      refine ald hC hK hR (ct_m_xs G _ _) (nI_T _ (by omega)) (by omega) (by omega) (Int.toNat_natCast _) dX10_foretold_41 ?_
      have rd_18 : (s_7 54 (24 * (((s_7 35 29).toInt - 1).toNat) + q)).toInt = (σ 54 (24 * (((s_7 35 29).toInt - 1).toNat) + q)).toInt := congrArg Int32.toInt (show s_7 54 (24 * (((s_7 35 29).toInt - 1).toNat) + q) = σ 54 (24 * (((s_7 35 29).toInt - 1).toNat) + q) from congrFun (f_9.1 54 (by omega) (by first | omega | (dsimp only; omega) | (intro h; exact h))) (24 * (((s_7 35 29).toInt - 1).toNat) + q))
      refine lv_i2l hC.x hC.b dX10_foretold_42 rfl ?_
      refine lv_aload_n hC.x hC.b dX10_foretold_43 rfl (lv_at hl 1 rfl) ?_
      refine rget hC hK hR (ct_model G _ _) rfl uin_X10 47 (by decide) TF_X10_189 rfl dX10_foretold_44 ?_
      refine lv_ladd hC.x hC.b dX10_foretold_47 ?_
      refine lv_goto (tgt := 55) hC.x hC.b dX10_foretold_48 (by decide) ?_
      refine lv_topl (fun x_19 ex_20 => ?_)
      refine lv_lstore_n (lv' := [(3, .long x_19), (2, .int (1 : Int32)), (0, .ref (G.2.1 35)), (1, .int pl)]) hC.x hC.b dX10_foretold_55 rfl hl (by decide) rfl (fun ls hl => ?_)
      refine lv_lload_n hC.x hC.b dX10_foretold_56 rfl (lv_at hl 0 rfl) ?_
      refine lv_ldc2 hC.x hC.b hC.ow (hC.ts _ TK_X10_204) dX10_foretold_57 ?_
      refine bl_le (tgt := 69) (a := x_19.toInt) (b := 1000000000) hC.x hC.b rfl rfl dX10_foretold_60 dX10_foretold_61 (by decide) (fun c_21 => ?_) (fun c_21 => ?_)
      · skip
        refine lv_lload_n hC.x hC.b dX10_foretold_69 rfl (lv_at hl 0 rfl) ?_
        refine lv_ldc2 hC.x hC.b hC.ow (hC.ts _ TK_X10_207) dX10_foretold_70 ?_
        refine bl_ge (tgt := 82) (a := x_19.toInt) (b := (-1000000000)) hC.x hC.b rfl rfl dX10_foretold_73 dX10_foretold_74 (by decide) (fun c_22 => ?_) (fun c_22 => ?_)
        · skip
          refine lv_lload_n hC.x hC.b dX10_foretold_82 rfl (lv_at hl 0 rfl) ?_
          refine lv_l2i hC.x hC.b dX10_foretold_83 rfl ?_
          exact reti hC hK hR hS (by exact (MRel.tr MRel.rf f_9)) dX10_foretold_84
        · skip
          refine lv_ldc hC.x hC.b hC.ow (hC.ts _ TK_X10_209) dX10_foretold_77 ?_
          refine lv_goto (tgt := 84) hC.x hC.b dX10_foretold_79 (by decide) ?_
          exact reti hC hK hR hS (by exact (MRel.tr MRel.rf f_9)) dX10_foretold_84
      · skip
        refine lv_ldc hC.x hC.b hC.ow (hC.ts _ TK_X10_206) dX10_foretold_64 ?_
        refine lv_goto (tgt := 84) hC.x hC.b dX10_foretold_66 (by decide) ?_
        exact reti hC hK hR hS (by exact (MRel.tr MRel.rf f_9)) dX10_foretold_84
    · skip
      refine lv_ldc hC.x hC.b hC.ow (hC.ts _ TK_X10_203) dX10_foretold_19 ?_
      exact reti hC hK hR hS (by exact (MRel.tr MRel.rf f_9)) dX10_foretold_21
  · skip
    refine lv_istore_n (lv' := [(2, .int (0 : Int32)), (0, .ref (G.2.1 35)), (1, .int pl)]) hC.x hC.b dX10_foretold_5 rfl hl (by decide) rfl (fun ls hl => ?_)
    refine lv_aload_n hC.x hC.b dX10_foretold_6 rfl (lv_at hl 1 rfl) ?_
    refine lv_iload_n hC.x hC.b dX10_foretold_7 rfl (lv_at hl 2 rfl) ?_
    refine lv_iload_n hC.x hC.b dX10_foretold_8 rfl (lv_at hl 0 rfl) ?_
    have av_23 : (0 : Int32).toInt = 0 := by decide
    refine gov (runV (As := [.int pl, .int (0 : Int32)]) (rest := []) hC hK hR hl.1 (c_X10_line l hG σ τ pl q (by first | rfl | (rw [show pl.toInt = pl.toInt from rfl]; done) | (rw [show pl.toInt = pl.toInt from rfl]; exact hp_q)) (0 : Int32) (by first | assumption | omega) (by omega) (by first | assumption | omega)) (call_b hC.ts TC_X10_line TN_X10 TM_X10_199 hd_X10_line ⟨Nat.le_of_ble_eq_true rfl, Nat.le_of_ble_eq_true rfl⟩) TI_X10_line TS_X10_line (ct_model G _ _) rfl rfl rfl (Nat.le_of_ble_eq_true rfl) dX10_foretold_9 ⟨Nat.le_of_ble_eq_true rfl, Nat.le_of_ble_eq_true rfl⟩) hS (fun s_26 t_27 H locs w_25 hR hS => ?_)
    try dsimp only [po_X10_line] at w_25
    obtain ⟨f_28, f_29⟩ := w_25
    refine lv_aload_n hC.x hC.b dX10_foretold_12 rfl (lv_at hl 1 rfl) ?_
    refine rget hC hK hR (ct_model G _ _) rfl uin_X10 44 (by decide) TF_X10_176 rfl dX10_foretold_13 ?_
    refine bz_ne (tgt := 22) (a := (s_26 35 44).toInt) (b := 0) hC.x hC.b rfl rfl dX10_foretold_16 (by decide) (fun c_30 => ?_) (fun c_30 => ?_)
    · skip
      refine lv_iload_n hC.x hC.b dX10_foretold_22 rfl (lv_at hl 0 rfl) ?_
      refine bz_eq (tgt := 51) (a := 0) (b := 0) hC.x hC.b rfl rfl dX10_foretold_23 (by decide) (fun _ => ?_) (fun c_31 => absurd c_31 (by decide))
      refine lv_aload_n hC.x hC.b dX10_foretold_51 rfl (lv_at hl 1 rfl) ?_
      refine rget hC hK hR (ct_model G _ _) rfl uin_X10 47 (by decide) TF_X10_189 rfl dX10_foretold_52 ?_
      refine lv_lstore_n (lv' := [(3, .long (t_27 35 47)), (2, .int (0 : Int32)), (0, .ref (G.2.1 35)), (1, .int pl)]) hC.x hC.b dX10_foretold_55 rfl hl (by decide) rfl (fun ls hl => ?_)
      refine lv_lload_n hC.x hC.b dX10_foretold_56 rfl (lv_at hl 0 rfl) ?_
      refine lv_ldc2 hC.x hC.b hC.ow (hC.ts _ TK_X10_204) dX10_foretold_57 ?_
      refine bl_le (tgt := 69) (a := (t_27 35 47).toInt) (b := 1000000000) hC.x hC.b rfl rfl dX10_foretold_60 dX10_foretold_61 (by decide) (fun c_32 => ?_) (fun c_32 => ?_)
      · skip
        refine lv_lload_n hC.x hC.b dX10_foretold_69 rfl (lv_at hl 0 rfl) ?_
        refine lv_ldc2 hC.x hC.b hC.ow (hC.ts _ TK_X10_207) dX10_foretold_70 ?_
        refine bl_ge (tgt := 82) (a := (t_27 35 47).toInt) (b := (-1000000000)) hC.x hC.b rfl rfl dX10_foretold_73 dX10_foretold_74 (by decide) (fun c_33 => ?_) (fun c_33 => ?_)
        · skip
          refine lv_lload_n hC.x hC.b dX10_foretold_82 rfl (lv_at hl 0 rfl) ?_
          refine lv_l2i hC.x hC.b dX10_foretold_83 rfl ?_
          exact reti hC hK hR hS (by exact (MRel.tr MRel.rf f_28)) dX10_foretold_84
        · skip
          refine lv_ldc hC.x hC.b hC.ow (hC.ts _ TK_X10_209) dX10_foretold_77 ?_
          refine lv_goto (tgt := 84) hC.x hC.b dX10_foretold_79 (by decide) ?_
          exact reti hC hK hR hS (by exact (MRel.tr MRel.rf f_28)) dX10_foretold_84
      · skip
        refine lv_ldc hC.x hC.b hC.ow (hC.ts _ TK_X10_206) dX10_foretold_64 ?_
        refine lv_goto (tgt := 84) hC.x hC.b dX10_foretold_66 (by decide) ?_
        exact reti hC hK hR hS (by exact (MRel.tr MRel.rf f_28)) dX10_foretold_84
    · skip
      refine lv_ldc hC.x hC.b hC.ow (hC.ts _ TK_X10_203) dX10_foretold_19 ?_
      exact reti hC hK hR hS (by exact (MRel.tr MRel.rf f_28)) dX10_foretold_21

abbrev po_X10_full (σ : SI) (τ : SL) (pl : Int32) (q : Nat) : Int32 → SI × SL → Prop := fun v u => ((MRel (fun _ => False) (fun j => j = 44) σ u.1))
set_option maxRecDepth 100000 in
set_option maxHeartbeats 4000000 in
theorem c_X10_full (l : Launch) {G : Gx} {A : Nat → Prop} (hG : GOk G A) (σ : SI) (τ : SL) (pl : Int32) (q : Nat) (hp_q : pl.toInt.toNat = q) (hnw : 0 ≤ (σ 35 29).toInt ∧ (σ 35 29).toInt ≤ 200) (hin : 0 ≤ pl.toInt ∧ pl.toInt < 24) (ho : 2 ≤ (σ 37 q).toInt ∧ (σ 37 q).toInt ≤ 12) (hkm : KM σ) : MI l G A 5 yX10_full cX10_full 7 (some .int) [.ref (G.2.1 35), .int pl] (σ, τ) (po_X10_full σ τ pl q) := by
  refine met_of (own := RX10) (by decide +kernel) rfl [(0, .ref (G.2.1 35)), (1, .int pl)] rfl (Nat.le_of_ble_eq_true rfl) ?_
  intro p e s m args below meth c ls hC hK hR hl
  have hS : va_S A s.heap s.heap [] := va_S.rf
  refine lv_aload_n hC.x hC.b dX10_full_0 rfl (lv_at hl 0 rfl) ?_
  refine rget hC hK hR (ct_model G _ _) rfl uin_X10 5 (by decide) TF_X10_26 rfl dX10_full_1 ?_
  refine lv_iload_n hC.x hC.b dX10_full_4 rfl (lv_at hl 1 rfl) ?_
  refine zald hC hK hR (ct_m_isOut G _ _) rfl (by omega) (by omega) hp_q dX10_full_5 ?_
  refine bz_ne (tgt := 19) (a := (σ 41 q).toInt) (b := 0) hC.x hC.b rfl rfl dX10_full_6 (by decide) (fun c_1 => ?_) (fun c_1 => ?_)
  · skip
    refine lv_iconst (v := 0) hC.x hC.b dX10_full_19 (by decide) ?_
    exact reti hC hK hR hS (by exact MRel.rf) dX10_full_20
  · skip
    refine lv_aload_n hC.x hC.b dX10_full_9 rfl (lv_at hl 0 rfl) ?_
    refine lv_iload_n hC.x hC.b dX10_full_10 rfl (lv_at hl 1 rfl) ?_
    refine goi (runV (As := [.int pl]) (rest := []) hC hK hR hl.1 (c_X10_foretold l hG σ τ pl q (by first | rfl | (rw [show pl.toInt = pl.toInt from rfl]; done) | (rw [show pl.toInt = pl.toInt from rfl]; exact hp_q)) (by first | assumption | omega) (by omega) (by first | assumption | omega)) (call_b hC.ts TC_X10_foretold TN_X10 TM_X10_210 hd_X10_foretold ⟨Nat.le_of_ble_eq_true rfl, Nat.le_of_ble_eq_true rfl⟩) TI_X10_foretold TS_X10_foretold (ct_model G _ _) rfl rfl rfl (Nat.le_of_ble_eq_true rfl) dX10_full_11 ⟨Nat.le_of_ble_eq_true rfl, Nat.le_of_ble_eq_true rfl⟩) hS (fun v_2 s_4 t_5 H locs w_3 hR hS => ?_)
    try dsimp only [po_X10_foretold] at w_3
    have f_6 := w_3
    refine lv_ldc hC.x hC.b hC.ow (hC.ts _ TK_X10_203) dX10_full_14 ?_
    refine bi_ne (tgt := 21) (a := v_2.toInt) (b := 2000000000) hC.x hC.b rfl rfl dX10_full_16 (by decide) (fun c_7 => ?_) (fun c_7 => ?_)
    · skip
      refine lv_lconst (v := 1) hC.x hC.b dX10_full_21 (by decide) ?_
      refine lv_lstore_n (lv' := [(2, .long (1 : Int64)), (0, .ref (G.2.1 35)), (1, .int pl)]) hC.x hC.b dX10_full_22 rfl hl (by decide) rfl (fun ls hl => ?_)
      refine lv_aload_n hC.x hC.b dX10_full_23 rfl (lv_at hl 1 rfl) ?_
      refine rget hC hK hR (ct_model G _ _) rfl uin_X10 29 (by decide) TF_X10_137 rfl dX10_full_24 ?_
      have rd_8 : (s_4 35 29).toInt = (σ 35 29).toInt := congrArg Int32.toInt (show s_4 35 29 = σ 35 29 from f_6.2 29 (by first | omega | (dsimp only; omega)))
      refine lv_aload_n hC.x hC.b dX10_full_27 rfl (lv_at hl 1 rfl) ?_
      refine rget hC hK hR (ct_model G _ _) rfl uin_X10 2 (by decide) TF_X10_16 rfl dX10_full_28 ?_
      refine lv_iload_n hC.x hC.b dX10_full_31 rfl (lv_at hl 2 rfl) ?_
      refine ald hC hK hR (ct_m_two G _ _) rfl (by omega) (by omega) hp_q dX10_full_32 ?_
      have rd_9 : (s_4 38 q).toInt = (σ 38 q).toInt := congrArg Int32.toInt (show s_4 38 q = σ 38 q from congrFun (f_6.1 38 (by omega) (by first | omega | (dsimp only; omega) | (intro h; exact h))) q)
      refine lv_isub hC.x hC.b dX10_full_33 ?_
      refine lv_topi (fun x_10 ex_11 => ?_)
      refine lv_istore (lv' := [(4, .int x_10), (2, .long (1 : Int64)), (0, .ref (G.2.1 35)), (1, .int pl)]) hC.x hC.b dX10_full_34 hl (by decide) rfl (fun ls hl => ?_)
      have L_36 : ∀ (F : Nat) (x2 : Int64) (t : Int32), (((σ 35 29).toInt - t.toInt).toNat) < F → (1 ≤ x2.toInt ∧ x2.toInt ≤ 1 + 900000000 * max 0 t.toInt) → ∀ (H : Heap) (locs : List Loc) (ls : Array Slot), RepH G s_4 t_5 H → va_S A s.heap H locs → lv_has ls 7 [(0, .ref (G.2.1 35)), (1, .int pl), (2, .long x2), (4, .int t)] → W p l e (rmD 5) s m args below meth c H locs 0 0 (MQ below (va_Qi (po_X10_full σ τ pl q) (BU G) A) args s 0 0 A) (F0 m 36 ls []) := by
        intro F
        induction F with
        | zero => intro x2 t hm; exact absurd hm (Nat.not_lt_zero _)
        | succ F ih_36 =>
          intro x2 t hm_36 hi0_36 H locs ls hR hS hl
          have tlo := i32_lo t
          refine lv_iload hC.x hC.b dX10_full_36 (lv_at hl 3 rfl) ?_
          refine lv_aload_n hC.x hC.b dX10_full_38 rfl (lv_at hl 0 rfl) ?_
          refine rget hC hK hR (ct_model G _ _) rfl uin_X10 29 (by decide) TF_X10_137 rfl dX10_full_39 ?_
          have rd_12 : (s_4 35 29).toInt = (σ 35 29).toInt := congrArg Int32.toInt (show s_4 35 29 = σ 35 29 from f_6.2 29 (by first | omega | (dsimp only; omega)))
          refine bi_ge (tgt := 91) (a := t.toInt) (b := (s_4 35 29).toInt) hC.x hC.b rfl rfl dX10_full_42 (by decide) (fun c_13 => ?_) (fun c_13 => ?_)
          · skip
            refine lv_iconst (v := 0) hC.x hC.b dX10_full_91 (by decide) ?_
            refine lv_istore (lv' := [(4, .int (0 : Int32)), (0, .ref (G.2.1 35)), (1, .int pl), (2, .long x2)]) hC.x hC.b dX10_full_92 hl (by decide) rfl (fun ls hl => ?_)
            refine lv_aload_n hC.x hC.b dX10_full_94 rfl (lv_at hl 1 rfl) ?_
            refine rget hC hK hR (ct_model G _ _) rfl uin_X10 29 (by decide) TF_X10_137 rfl dX10_full_95 ?_
            have rd_14 : (s_4 35 29).toInt = (σ 35 29).toInt := congrArg Int32.toInt (show s_4 35 29 = σ 35 29 from f_6.2 29 (by first | omega | (dsimp only; omega)))
            refine lv_aload_n hC.x hC.b dX10_full_98 rfl (lv_at hl 1 rfl) ?_
            refine rget hC hK hR (ct_model G _ _) rfl uin_X10 2 (by decide) TF_X10_16 rfl dX10_full_99 ?_
            refine lv_iload_n hC.x hC.b dX10_full_102 rfl (lv_at hl 2 rfl) ?_
            refine ald hC hK hR (ct_m_two G _ _) rfl (by omega) (by omega) hp_q dX10_full_103 ?_
            have rd_15 : (s_4 38 q).toInt = (σ 38 q).toInt := congrArg Int32.toInt (show s_4 38 q = σ 38 q from congrFun (f_6.1 38 (by omega) (by first | omega | (dsimp only; omega) | (intro h; exact h))) q)
            refine lv_isub hC.x hC.b dX10_full_104 ?_
            refine lv_topi (fun x_16 ex_17 => ?_)
            refine lv_istore (lv' := [(5, .int x_16), (4, .int (0 : Int32)), (0, .ref (G.2.1 35)), (1, .int pl), (2, .long x2)]) hC.x hC.b dX10_full_105 hl (by decide) rfl (fun ls hl => ?_)
            have L_107 : ∀ (F : Nat) (x4 : Int32) (t : Int32), (((σ 35 29).toInt - t.toInt).toNat) < F → ∀ (H : Heap) (locs : List Loc) (ls : Array Slot), RepH G s_4 t_5 H → va_S A s.heap H locs → lv_has ls 7 [(0, .ref (G.2.1 35)), (1, .int pl), (2, .long x2), (4, .int x4), (5, .int t)] → W p l e (rmD 5) s m args below meth c H locs 0 0 (MQ below (va_Qi (po_X10_full σ τ pl q) (BU G) A) args s 0 0 A) (F0 m 107 ls []) := by
              intro F
              induction F with
              | zero => intro x4 t hm; exact absurd hm (Nat.not_lt_zero _)
              | succ F ih_107 =>
                intro x4 t hm_107  H locs ls hR hS hl
                have tlo := i32_lo t
                refine lv_iload hC.x hC.b dX10_full_107 (lv_at hl 4 rfl) ?_
                refine lv_aload_n hC.x hC.b dX10_full_109 rfl (lv_at hl 0 rfl) ?_
                refine rget hC hK hR (ct_model G _ _) rfl uin_X10 29 (by decide) TF_X10_137 rfl dX10_full_110 ?_
                have rd_18 : (s_4 35 29).toInt = (σ 35 29).toInt := congrArg Int32.toInt (show s_4 35 29 = σ 35 29 from f_6.2 29 (by first | omega | (dsimp only; omega)))
                refine bi_ge (tgt := 144) (a := t.toInt) (b := (s_4 35 29).toInt) hC.x hC.b rfl rfl dX10_full_113 (by decide) (fun c_19 => ?_) (fun c_19 => ?_)
                · skip
                  refine lv_iload hC.x hC.b dX10_full_144 (lv_at hl 3 rfl) ?_
                  refine bz_ne (tgt := 151) (a := x4.toInt) (b := 0) hC.x hC.b rfl rfl dX10_full_146 (by decide) (fun c_20 => ?_) (fun c_20 => ?_)
                  · skip
                    refine lv_ldc2 hC.x hC.b hC.ow (hC.ts _ TK_X10_217) dX10_full_151 ?_
                    refine lv_lload_n hC.x hC.b dX10_full_154 rfl (lv_at hl 2 rfl) ?_
                    refine lv_ldiv hC.x hC.b dX10_full_155 (ne0L rfl (by omega)) ?_
                    refine lv_topl (fun x_21 ex_22 => ?_)
                    refine lv_lstore (lv' := [(5, .long x_21), (0, .ref (G.2.1 35)), (1, .int pl), (2, .long x2), (4, .int x4)]) hC.x hC.b dX10_full_156 hl (by decide) rfl (fun ls hl => ?_)
                    refine lv_lload hC.x hC.b dX10_full_158 (lv_at hl 0 rfl) ?_
                    refine lv_lconst (v := 1) hC.x hC.b dX10_full_160 (by decide) ?_
                    refine bl_ge (tgt := 169) (a := x_21.toInt) (b := 1) hC.x hC.b rfl rfl dX10_full_161 dX10_full_162 (by decide) (fun c_23 => ?_) (fun c_23 => ?_)
                    · skip
                      refine lv_lload hC.x hC.b dX10_full_169 (lv_at hl 0 rfl) ?_
                      refine lv_l2i hC.x hC.b dX10_full_171 rfl ?_
                      exact reti hC hK hR hS (by exact (MRel.tr MRel.rf f_6)) dX10_full_172
                    · skip
                      refine lv_iconst (v := 1) hC.x hC.b dX10_full_165 (by decide) ?_
                      refine lv_goto (tgt := 172) hC.x hC.b dX10_full_166 (by decide) ?_
                      exact reti hC hK hR hS (by exact (MRel.tr MRel.rf f_6)) dX10_full_172
                  · skip
                    refine lv_iconst (v := 1) hC.x hC.b dX10_full_149 (by decide) ?_
                    exact reti hC hK hR hS (by exact (MRel.tr MRel.rf f_6)) dX10_full_150
                · skip
                  refine lv_iload hC.x hC.b dX10_full_116 (lv_at hl 3 rfl) ?_
                  refine bz_ne (tgt := 131) (a := x4.toInt) (b := 0) hC.x hC.b rfl rfl dX10_full_118 (by decide) (fun c_24 => ?_) (fun c_24 => ?_)
                  · skip
                    refine lv_iconst (v := 1) hC.x hC.b dX10_full_131 (by decide) ?_
                    refine lv_goto (tgt := 136) hC.x hC.b dX10_full_132 (by decide) ?_
                    refine lv_istore (lv' := [(4, .int (1 : Int32)), (0, .ref (G.2.1 35)), (1, .int pl), (2, .long x2), (5, .int t)]) hC.x hC.b dX10_full_136 hl (by decide) rfl (fun ls hl => ?_)
                    obtain ⟨x_25, ex_26⟩ : ∃ y : Int32, y = t + 1 := ⟨_, rfl⟩
                    have pr_27 : x_25.toInt = t.toInt + (1) := by rw [ex_26]; exact addI rfl rfl (by omega) (by omega)
                    refine lv_iinc (v := x_25) (lv' := [(5, .int x_25), (4, .int (1 : Int32)), (0, .ref (G.2.1 35)), (1, .int pl), (2, .long x2)]) hC.x hC.b dX10_full_138 hl (k := 4) rfl ex_26.symm (by decide) rfl (fun ls hl => ?_)
                    refine lv_goto (tgt := 107) hC.x hC.b dX10_full_141 (by decide) ?_
                    exact ih_107 (1 : Int32) x_25 (by omega)  _ _ _ hR hS (lv_sub hl [2, 3, 4, 1, 0] rfl)
                  · skip
                    refine lv_aload_n hC.x hC.b dX10_full_121 rfl (lv_at hl 0 rfl) ?_
                    refine lv_iload hC.x hC.b dX10_full_122 (lv_at hl 4 rfl) ?_
                    refine lv_iload_n hC.x hC.b dX10_full_124 rfl (lv_at hl 1 rfl) ?_
                    have rd_28 : (s_4 35 29).toInt = (σ 35 29).toInt := congrArg Int32.toInt (show s_4 35 29 = σ 35 29 from f_6.2 29 (by first | omega | (dsimp only; omega)))
                    refine goip (runV (As := [.int t, .int pl]) (rest := []) hC hK hR hl.1 (c_X10_isMissed l hG s_4 t_5 t t.toInt.toNat rfl pl q (by first | rfl | (rw [show pl.toInt = pl.toInt from rfl]; done) | (rw [show pl.toInt = pl.toInt from rfl]; exact hp_q)) (by first | assumption | omega) (by omega)) (call_b hC.ts TC_X10_isMissed TN_X10 TM_X10_214 hd_X10_isMissed ⟨Nat.le_of_ble_eq_true rfl, Nat.le_of_ble_eq_true rfl⟩) TI_X10_isMissed TS_X10_isMissed (ct_model G _ _) rfl rfl rfl (Nat.le_of_ble_eq_true rfl) dX10_full_125 ⟨Nat.le_of_ble_eq_true rfl, Nat.le_of_ble_eq_true rfl⟩) hS (fun v_29 H locs w_30 hR hS => ?_)
                    rcases w_30 with ⟨rfl, f_31, f_32⟩ | rfl
                    · skip
                      refine bz_eq (tgt := 135) (a := 1) (b := 0) hC.x hC.b rfl rfl dX10_full_128 (by decide) (fun c_33 => absurd c_33 (by decide)) (fun _ => ?_)
                      refine lv_iconst (v := 1) hC.x hC.b dX10_full_131 (by decide) ?_
                      refine lv_goto (tgt := 136) hC.x hC.b dX10_full_132 (by decide) ?_
                      refine lv_istore (lv' := [(4, .int (1 : Int32)), (0, .ref (G.2.1 35)), (1, .int pl), (2, .long x2), (5, .int t)]) hC.x hC.b dX10_full_136 hl (by decide) rfl (fun ls hl => ?_)
                      obtain ⟨x_34, ex_35⟩ : ∃ y : Int32, y = t + 1 := ⟨_, rfl⟩
                      have pr_36 : x_34.toInt = t.toInt + (1) := by rw [ex_35]; exact addI rfl rfl (by omega) (by omega)
                      refine lv_iinc (v := x_34) (lv' := [(5, .int x_34), (4, .int (1 : Int32)), (0, .ref (G.2.1 35)), (1, .int pl), (2, .long x2)]) hC.x hC.b dX10_full_138 hl (k := 4) rfl ex_35.symm (by decide) rfl (fun ls hl => ?_)
                      refine lv_goto (tgt := 107) hC.x hC.b dX10_full_141 (by decide) ?_
                      exact ih_107 (1 : Int32) x_34 (by omega)  _ _ _ hR hS (lv_sub hl [2, 3, 4, 1, 0] rfl)
                    · skip
                      refine bz_eq (tgt := 135) (a := 0) (b := 0) hC.x hC.b rfl rfl dX10_full_128 (by decide) (fun _ => ?_) (fun c_37 => absurd c_37 (by decide))
                      refine lv_iconst (v := 0) hC.x hC.b dX10_full_135 (by decide) ?_
                      refine lv_istore (lv' := [(4, .int (0 : Int32)), (0, .ref (G.2.1 35)), (1, .int pl), (2, .long x2), (5, .int t)]) hC.x hC.b dX10_full_136 hl (by decide) rfl (fun ls hl => ?_)
                      obtain ⟨x_38, ex_39⟩ : ∃ y : Int32, y = t + 1 := ⟨_, rfl⟩
                      have pr_40 : x_38.toInt = t.toInt + (1) := by rw [ex_39]; exact addI rfl rfl (by omega) (by omega)
                      refine lv_iinc (v := x_38) (lv' := [(5, .int x_38), (4, .int (0 : Int32)), (0, .ref (G.2.1 35)), (1, .int pl), (2, .long x2)]) hC.x hC.b dX10_full_138 hl (k := 4) rfl ex_39.symm (by decide) rfl (fun ls hl => ?_)
                      refine lv_goto (tgt := 107) hC.x hC.b dX10_full_141 (by decide) ?_
                      exact ih_107 (0 : Int32) x_38 (by omega)  _ _ _ hR hS (lv_sub hl [2, 3, 4, 1, 0] rfl)
            exact L_107 _ (0 : Int32) x_16 (Nat.lt_succ_self _)  _ _ _ hR hS (lv_sub hl [2, 3, 4, 1, 0] rfl)
          · skip
            refine lv_aload_n hC.x hC.b dX10_full_45 rfl (lv_at hl 0 rfl) ?_
            refine lv_iload hC.x hC.b dX10_full_46 (lv_at hl 3 rfl) ?_
            refine lv_iload_n hC.x hC.b dX10_full_48 rfl (lv_at hl 1 rfl) ?_
            have rd_41 : (s_4 35 29).toInt = (σ 35 29).toInt := congrArg Int32.toInt (show s_4 35 29 = σ 35 29 from f_6.2 29 (by first | omega | (dsimp only; omega)))
            refine goip (runV (As := [.int t, .int pl]) (rest := []) hC hK hR hl.1 (c_X10_isMissed l hG s_4 t_5 t t.toInt.toNat rfl pl q (by first | rfl | (rw [show pl.toInt = pl.toInt from rfl]; done) | (rw [show pl.toInt = pl.toInt from rfl]; exact hp_q)) (by first | assumption | omega) (by omega)) (call_b hC.ts TC_X10_isMissed TN_X10 TM_X10_214 hd_X10_isMissed ⟨Nat.le_of_ble_eq_true rfl, Nat.le_of_ble_eq_true rfl⟩) TI_X10_isMissed TS_X10_isMissed (ct_model G _ _) rfl rfl rfl (Nat.le_of_ble_eq_true rfl) dX10_full_49 ⟨Nat.le_of_ble_eq_true rfl, Nat.le_of_ble_eq_true rfl⟩) hS (fun v_42 H locs w_43 hR hS => ?_)
            rcases w_43 with ⟨rfl, f_44, f_45⟩ | rfl
            · skip
              refine bz_eq (tgt := 85) (a := 1) (b := 0) hC.x hC.b rfl rfl dX10_full_52 (by decide) (fun c_46 => absurd c_46 (by decide)) (fun _ => ?_)
              refine lv_lload_n hC.x hC.b dX10_full_55 rfl (lv_at hl 2 rfl) ?_
              refine lv_aload_n hC.x hC.b dX10_full_56 rfl (lv_at hl 0 rfl) ?_
              refine rget hC hK hR (ct_model G _ _) rfl uin_X10 20 (by decide) TF_X10_71 rfl dX10_full_57 ?_
              refine lv_aload_n hC.x hC.b dX10_full_60 rfl (lv_at hl 0 rfl) ?_
              refine lv_iload hC.x hC.b dX10_full_61 (lv_at hl 3 rfl) ?_
              refine lv_iload_n hC.x hC.b dX10_full_63 rfl (lv_at hl 1 rfl) ?_
              refine goip (runV (As := [.int t, .int pl]) (rest := [.ref (G.2.1 56), .long x2]) hC hK hR hl.1 (c_X10_at l hG s_4 t_5 t t.toInt.toNat rfl pl q (by first | rfl | (rw [show pl.toInt = pl.toInt from rfl]; done) | (rw [show pl.toInt = pl.toInt from rfl]; exact hp_q)) (by omega) (by omega)) (call_b hC.ts TC_X10_at TN_X10 TM_X10_140 hd_X10_at ⟨Nat.le_of_ble_eq_true rfl, Nat.le_of_ble_eq_true rfl⟩) TI_X10_at TS_X10_at (ct_model G _ _) rfl rfl rfl (Nat.le_of_ble_eq_true rfl) dX10_full_64 ⟨Nat.le_of_ble_eq_true rfl, Nat.le_of_ble_eq_true rfl⟩) hS (fun v_47 H locs w_48 hR hS => ?_)
              subst w_48
              refine ald hC hK hR (ct_m_ms G _ _) (nI_T _ (by omega)) (by omega) (by omega) (Int.toNat_natCast _) dX10_full_67 ?_
              have rd_49 : (s_4 56 (24 * t.toInt.toNat + q)).toInt = (σ 56 (24 * t.toInt.toNat + q)).toInt := congrArg Int32.toInt (show s_4 56 (24 * t.toInt.toNat + q) = σ 56 (24 * t.toInt.toNat + q) from congrFun (f_6.1 56 (by omega) (by first | omega | (dsimp only; omega) | (intro h; exact h))) (24 * t.toInt.toNat + q))
              refine lv_i2l hC.x hC.b dX10_full_68 rfl ?_
              refine lv_aload_n hC.x hC.b dX10_full_69 rfl (lv_at hl 0 rfl) ?_
              refine rget hC hK hR (ct_model G _ _) rfl uin_X10 20 (by decide) TF_X10_71 rfl dX10_full_70 ?_
              refine lv_aload_n hC.x hC.b dX10_full_73 rfl (lv_at hl 0 rfl) ?_
              refine lv_iload hC.x hC.b dX10_full_74 (lv_at hl 3 rfl) ?_
              refine lv_iload_n hC.x hC.b dX10_full_76 rfl (lv_at hl 1 rfl) ?_
              refine goip (runV (As := [.int t, .int pl]) (rest := [.ref (G.2.1 56), .long ((s_4 56 (24 * t.toInt.toNat + q)).toInt64), .long x2]) hC hK hR hl.1 (c_X10_at l hG s_4 t_5 t t.toInt.toNat rfl pl q (by first | rfl | (rw [show pl.toInt = pl.toInt from rfl]; done) | (rw [show pl.toInt = pl.toInt from rfl]; exact hp_q)) (by omega) (by omega)) (call_b hC.ts TC_X10_at TN_X10 TM_X10_140 hd_X10_at ⟨Nat.le_of_ble_eq_true rfl, Nat.le_of_ble_eq_true rfl⟩) TI_X10_at TS_X10_at (ct_model G _ _) rfl rfl rfl (Nat.le_of_ble_eq_true rfl) dX10_full_77 ⟨Nat.le_of_ble_eq_true rfl, Nat.le_of_ble_eq_true rfl⟩) hS (fun v_50 H locs w_51 hR hS => ?_)
              subst w_51
              refine ald hC hK hR (ct_m_ms G _ _) (nI_T _ (by omega)) (by omega) (by omega) (Int.toNat_natCast _) dX10_full_80 ?_
              have rd_52 : (s_4 56 (24 * t.toInt.toNat + q)).toInt = (σ 56 (24 * t.toInt.toNat + q)).toInt := congrArg Int32.toInt (show s_4 56 (24 * t.toInt.toNat + q) = σ 56 (24 * t.toInt.toNat + q) from congrFun (f_6.1 56 (by omega) (by first | omega | (dsimp only; omega) | (intro h; exact h))) (24 * t.toInt.toNat + q))
              refine lv_i2l hC.x hC.b dX10_full_81 rfl ?_
              have hmk := (KM.fr hkm f_6 (by first | omega | (dsimp only; omega) | exact fun q => q) (by first | omega | (dsimp only; omega) | exact fun q => q) (by first | omega | (dsimp only; omega) | exact fun q => q) (by first | omega | (dsimp only; omega))).1 (24 * t.toInt.toNat + q)
              have hmq := sqle (m := (s_4 56 (24 * t.toInt.toNat + q)).toInt) (B := 30000) (by omega) (by omega)
              refine lv_lmul hC.x hC.b dX10_full_82 ?_
              have pr_53 : ((s_4 56 (24 * t.toInt.toNat + q)).toInt64 * (s_4 56 (24 * t.toInt.toNat + q)).toInt64).toInt = ((s_4 56 (24 * t.toInt.toNat + q)).toInt * (s_4 56 (24 * t.toInt.toNat + q)).toInt) := mulL (i2lI rfl) (i2lI rfl) (by omega) (by omega)
              refine lv_ladd hC.x hC.b dX10_full_83 ?_
              have pr_54 : (x2 + ((s_4 56 (24 * t.toInt.toNat + q)).toInt64 * (s_4 56 (24 * t.toInt.toNat + q)).toInt64)).toInt = (x2.toInt + ((s_4 56 (24 * t.toInt.toNat + q)).toInt * (s_4 56 (24 * t.toInt.toNat + q)).toInt)) := addL rfl pr_53 (by omega) (by omega)
              refine lv_topl (fun x_55 ex_56 => ?_)
              have pr_57 : x_55.toInt = (x2.toInt + ((s_4 56 (24 * t.toInt.toNat + q)).toInt * (s_4 56 (24 * t.toInt.toNat + q)).toInt)) := by rw [ex_56]; exact pr_54
              refine lv_lstore_n (lv' := [(2, .long x_55), (0, .ref (G.2.1 35)), (1, .int pl), (4, .int t)]) hC.x hC.b dX10_full_84 rfl hl (by decide) rfl (fun ls hl => ?_)
              obtain ⟨x_58, ex_59⟩ : ∃ y : Int32, y = t + 1 := ⟨_, rfl⟩
              have pr_60 : x_58.toInt = t.toInt + (1) := by rw [ex_59]; exact addI rfl rfl (by omega) (by omega)
              refine lv_iinc (v := x_58) (lv' := [(4, .int x_58), (2, .long x_55), (0, .ref (G.2.1 35)), (1, .int pl)]) hC.x hC.b dX10_full_85 hl (k := 3) rfl ex_59.symm (by decide) rfl (fun ls hl => ?_)
              refine lv_goto (tgt := 36) hC.x hC.b dX10_full_88 (by decide) ?_
              exact ih_36 x_55 x_58 (by omega) (by first | omega | assumption) _ _ _ hR hS (lv_sub hl [2, 3, 1, 0] rfl)
            · skip
              refine bz_eq (tgt := 85) (a := 0) (b := 0) hC.x hC.b rfl rfl dX10_full_52 (by decide) (fun _ => ?_) (fun c_61 => absurd c_61 (by decide))
              obtain ⟨x_62, ex_63⟩ : ∃ y : Int32, y = t + 1 := ⟨_, rfl⟩
              have pr_64 : x_62.toInt = t.toInt + (1) := by rw [ex_63]; exact addI rfl rfl (by omega) (by omega)
              refine lv_iinc (v := x_62) (lv' := [(4, .int x_62), (0, .ref (G.2.1 35)), (1, .int pl), (2, .long x2)]) hC.x hC.b dX10_full_85 hl (k := 3) rfl ex_63.symm (by decide) rfl (fun ls hl => ?_)
              refine lv_goto (tgt := 36) hC.x hC.b dX10_full_88 (by decide) ?_
              exact ih_36 x2 x_62 (by omega) (by first | omega | assumption) _ _ _ hR hS (lv_sub hl [1, 2, 3, 0] rfl)
      exact L_36 _ (1 : Int64) x_10 (Nat.lt_succ_self _) (by (have h1L : (1 : Int64).toInt = 1 := (by decide)); omega) _ _ _ hR hS (lv_sub hl [2, 3, 1, 0] rfl)
    · skip
      refine lv_iconst (v := 0) hC.x hC.b dX10_full_19 (by decide) ?_
      exact reti hC hK hR hS (by exact (MRel.tr MRel.rf f_6)) dX10_full_20

abbrev po_X10_clock (σ : SI) (τ : SL) (pl : Int32) (q : Nat) (wa : Int32) : Int32 → SI × SL → Prop := fun v u => u = (σ, τ) ∧ (True)
set_option maxRecDepth 100000 in
set_option maxHeartbeats 4000000 in
theorem c_X10_clock (l : Launch) {G : Gx} {A : Nat → Prop} (hG : GOk G A) (σ : SI) (τ : SL) (pl : Int32) (q : Nat) (hp_q : pl.toInt.toNat = q) (wa : Int32) (hnw : 0 ≤ (σ 35 29).toInt ∧ (σ 35 29).toInt ≤ 200) : MI l G A 3 yX10_clock cX10_clock 6 (some .int) [.ref (G.2.1 35), .int pl, .int wa] (σ, τ) (po_X10_clock σ τ pl q wa) := by
  refine met_of (own := RX10) (by decide +kernel) rfl [(0, .ref (G.2.1 35)), (1, .int pl), (2, .int wa)] rfl (Nat.le_of_ble_eq_true rfl) ?_
  intro p e s m args below meth c ls hC hK hR hl
  have hS : va_S A s.heap s.heap [] := va_S.rf
  refine lv_aload_n hC.x hC.b dX10_clock_0 rfl (lv_at hl 0 rfl) ?_
  refine lv_iload_n hC.x hC.b dX10_clock_1 rfl (lv_at hl 1 rfl) ?_
  refine lv_iconst (v := 0) hC.x hC.b dX10_clock_2 (by decide) ?_
  refine lv_iconst (v := 3) hC.x hC.b dX10_clock_3 (by decide) ?_
  have av_1 : (0 : Int32).toInt = 0 := by decide
  have av_2 : (3 : Int32).toInt = 3 := by decide
  refine goip (runV (As := [.int pl, .int (0 : Int32), .int (3 : Int32)]) (rest := []) hC hK hR hl.1 (c_X10_fails l hG σ τ pl q (by first | rfl | (rw [show pl.toInt = pl.toInt from rfl]; done) | (rw [show pl.toInt = pl.toInt from rfl]; exact hp_q)) (0 : Int32) (3 : Int32) ) (call_b hC.ts TC_X10_fails TN_X10 TM_X10_144 hd_X10_fails ⟨Nat.le_of_ble_eq_true rfl, Nat.le_of_ble_eq_true rfl⟩) TI_X10_fails TS_X10_fails (ct_model G _ _) rfl rfl rfl (Nat.le_of_ble_eq_true rfl) dX10_clock_4 ⟨Nat.le_of_ble_eq_true rfl, Nat.le_of_ble_eq_true rfl⟩) hS (fun v_3 H locs w_4 hR hS => ?_)
  rcases w_4 with ⟨rfl, f_5⟩ | ⟨rfl, f_6, f_7, f_8⟩ | ⟨rfl, f_9, f_10, f_11⟩
  · skip
    refine lv_istore_n (lv' := [(3, .int (-1 : Int32)), (0, .ref (G.2.1 35)), (1, .int pl), (2, .int wa)]) hC.x hC.b dX10_clock_7 rfl hl (by decide) rfl (fun ls hl => ?_)
    refine lv_iload_n hC.x hC.b dX10_clock_8 rfl (lv_at hl 0 rfl) ?_
    refine bz_eq (tgt := 14) (a := (-1)) (b := 0) hC.x hC.b rfl rfl dX10_clock_9 (by decide) (fun c_12 => absurd c_12 (by decide)) (fun _ => ?_)
    refine lv_iload_n hC.x hC.b dX10_clock_12 rfl (lv_at hl 0 rfl) ?_
    exact reti hC hK hR hS ⟨rfl, (trivial)⟩ dX10_clock_13
  · skip
    refine lv_istore_n (lv' := [(3, .int (0 : Int32)), (0, .ref (G.2.1 35)), (1, .int pl), (2, .int wa)]) hC.x hC.b dX10_clock_7 rfl hl (by decide) rfl (fun ls hl => ?_)
    refine lv_iload_n hC.x hC.b dX10_clock_8 rfl (lv_at hl 0 rfl) ?_
    refine bz_eq (tgt := 14) (a := 0) (b := 0) hC.x hC.b rfl rfl dX10_clock_9 (by decide) (fun _ => ?_) (fun c_13 => absurd c_13 (by decide))
    refine lv_iconst (v := 0) hC.x hC.b dX10_clock_14 (by decide) ?_
    refine lv_istore (lv' := [(4, .int (0 : Int32)), (3, .int (0 : Int32)), (0, .ref (G.2.1 35)), (1, .int pl), (2, .int wa)]) hC.x hC.b dX10_clock_15 hl (by decide) rfl (fun ls hl => ?_)
    refine lv_iconst (v := 0) hC.x hC.b dX10_clock_17 (by decide) ?_
    refine lv_istore (lv' := [(5, .int (0 : Int32)), (4, .int (0 : Int32)), (3, .int (0 : Int32)), (0, .ref (G.2.1 35)), (1, .int pl), (2, .int wa)]) hC.x hC.b dX10_clock_18 hl (by decide) rfl (fun ls hl => ?_)
    have L_20 : ∀ (F : Nat) (x4 : Int32) (n : Nat), (201 - n) < F → ((n : Int) ≤ 200) → ∀ (H : Heap) (locs : List Loc) (ls : Array Slot), RepH G σ τ H → va_S A s.heap H locs → lv_has ls 6 [(0, .ref (G.2.1 35)), (1, .int pl), (2, .int wa), (4, .int x4), (5, .int (nI n))] → W p l e (rmD 3) s m args below meth c H locs 0 0 (MQ below (va_Qi (po_X10_clock σ τ pl q wa) (BU G) A) args s 0 0 A) (F0 m 20 ls []) := by
      intro F
      induction F with
      | zero => intro x4 n hm; exact absurd hm (Nat.not_lt_zero _)
      | succ F ih_20 =>
        intro x4 n hm_20 hi0_20 H locs ls hR hS hl
        have hnI := nI_T n (by omega)
        refine lv_iload hC.x hC.b dX10_clock_20 (lv_at hl 4 rfl) ?_
        refine lv_aload_n hC.x hC.b dX10_clock_22 rfl (lv_at hl 0 rfl) ?_
        refine rget hC hK hR (ct_model G _ _) rfl uin_X10 29 (by decide) TF_X10_137 rfl dX10_clock_23 ?_
        refine bi_ge (tgt := 55) (a := (n : Int)) (b := (σ 35 29).toInt) hC.x hC.b (nI_T n (by omega)) rfl dX10_clock_26 (by decide) (fun c_14 => ?_) (fun c_14 => ?_)
        · skip
          refine lv_iload_n hC.x hC.b dX10_clock_55 rfl (lv_at hl 2 rfl) ?_
          have sw_15 : wa.toInt = 0 ∨ wa.toInt = 1 ∨ wa.toInt = 2 ∨ wa.toInt = 3 ∨ wa.toInt = 4 ∨ wa.toInt = 5 ∨ wa.toInt = 6 ∨ wa.toInt = 7 ∨ wa.toInt = 8 ∨ (wa.toInt < 0 ∨ 8 < wa.toInt) := by omega
          rcases sw_15 with sw_15 | sw_15 | sw_15 | sw_15 | sw_15 | sw_15 | sw_15 | sw_15 | sw_15 | sw_15
          · skip
            refine lv_tableIn (tgt := 108) hC.x hC.b dX10_clock_56 (by omega) (by omega) (by rw [sw_15]; rfl) (by decide) ?_
            refine lv_aload_n hC.x hC.b dX10_clock_108 rfl (lv_at hl 0 rfl) ?_
            refine lv_iload_n hC.x hC.b dX10_clock_109 rfl (lv_at hl 1 rfl) ?_
            refine goip (runV (As := [.int pl]) (rest := []) hC hK hR hl.1 (c_X10_isTaken l hG σ τ pl q (by first | rfl | (rw [show pl.toInt = pl.toInt from rfl]; done) | (rw [show pl.toInt = pl.toInt from rfl]; exact hp_q)) ) (call_b hC.ts TC_X10_isTaken TN_X10 TM_X10_219 hd_X10_isTaken ⟨Nat.le_of_ble_eq_true rfl, Nat.le_of_ble_eq_true rfl⟩) TI_X10_isTaken TS_X10_isTaken (ct_model G _ _) rfl rfl rfl (Nat.le_of_ble_eq_true rfl) dX10_clock_110 ⟨Nat.le_of_ble_eq_true rfl, Nat.le_of_ble_eq_true rfl⟩) hS (fun v_16 H locs w_17 hR hS => ?_)
            rcases w_17 with ⟨rfl, f_18, f_19, f_20, f_21⟩ | ⟨rfl, f_22⟩
            · skip
              refine bz_eq (tgt := 120) (a := 1) (b := 0) hC.x hC.b rfl rfl dX10_clock_113 (by decide) (fun c_23 => absurd c_23 (by decide)) (fun _ => ?_)
              refine lv_iconst (v := 1) hC.x hC.b dX10_clock_116 (by decide) ?_
              refine lv_goto (tgt := 121) hC.x hC.b dX10_clock_117 (by decide) ?_
              exact reti hC hK hR hS ⟨rfl, (trivial)⟩ dX10_clock_121
            · skip
              refine bz_eq (tgt := 120) (a := 0) (b := 0) hC.x hC.b rfl rfl dX10_clock_113 (by decide) (fun _ => ?_) (fun c_24 => absurd c_24 (by decide))
              refine lv_iconst (v := 0) hC.x hC.b dX10_clock_120 (by decide) ?_
              exact reti hC hK hR hS ⟨rfl, (trivial)⟩ dX10_clock_121
          · skip
            refine lv_tableIn (tgt := 122) hC.x hC.b dX10_clock_56 (by omega) (by omega) (by rw [sw_15]; rfl) (by decide) ?_
            refine lv_aload_n hC.x hC.b dX10_clock_122 rfl (lv_at hl 0 rfl) ?_
            refine rget hC hK hR (ct_model G _ _) rfl uin_X10 5 (by decide) TF_X10_26 rfl dX10_clock_123 ?_
            refine lv_iload_n hC.x hC.b dX10_clock_126 rfl (lv_at hl 1 rfl) ?_
            refine zald hC hK hR (ct_m_isOut G _ _) rfl (by omega) (by omega) hp_q dX10_clock_127 ?_
            refine bz_eq (tgt := 135) (a := (σ 41 q).toInt) (b := 0) hC.x hC.b rfl rfl dX10_clock_128 (by decide) (fun c_25 => ?_) (fun c_25 => ?_)
            · skip
              refine lv_iconst (v := 0) hC.x hC.b dX10_clock_135 (by decide) ?_
              exact reti hC hK hR hS ⟨rfl, (trivial)⟩ dX10_clock_136
            · skip
              refine lv_iconst (v := 1) hC.x hC.b dX10_clock_131 (by decide) ?_
              refine lv_goto (tgt := 136) hC.x hC.b dX10_clock_132 (by decide) ?_
              exact reti hC hK hR hS ⟨rfl, (trivial)⟩ dX10_clock_136
          · skip
            refine lv_tableIn (tgt := 137) hC.x hC.b dX10_clock_56 (by omega) (by omega) (by rw [sw_15]; rfl) (by decide) ?_
            refine lv_aload_n hC.x hC.b dX10_clock_137 rfl (lv_at hl 0 rfl) ?_
            refine rget hC hK hR (ct_model G _ _) rfl uin_X10 8 (by decide) TF_X10_35 rfl dX10_clock_138 ?_
            refine lv_iload_n hC.x hC.b dX10_clock_141 rfl (lv_at hl 1 rfl) ?_
            refine ald hC hK hR (ct_m_suspect G _ _) rfl (by omega) (by omega) hp_q dX10_clock_142 ?_
            refine lv_aload_n hC.x hC.b dX10_clock_143 rfl (lv_at hl 0 rfl) ?_
            refine rget hC hK hR (ct_model G _ _) rfl uin_X10 29 (by decide) TF_X10_137 rfl dX10_clock_144 ?_
            refine lv_iconst (v := 1) hC.x hC.b dX10_clock_147 (by decide) ?_
            refine lv_isub hC.x hC.b dX10_clock_148 ?_
            refine bi_ne (tgt := 156) (a := (σ 44 q).toInt) (b := ((σ 35 29) - (1 : Int32)).toInt) hC.x hC.b rfl rfl dX10_clock_149 (by decide) (fun c_26 => ?_) (fun c_26 => ?_)
            · skip
              refine lv_iconst (v := 0) hC.x hC.b dX10_clock_156 (by decide) ?_
              exact reti hC hK hR hS ⟨rfl, (trivial)⟩ dX10_clock_157
            · skip
              refine lv_iconst (v := 1) hC.x hC.b dX10_clock_152 (by decide) ?_
              refine lv_goto (tgt := 157) hC.x hC.b dX10_clock_153 (by decide) ?_
              exact reti hC hK hR hS ⟨rfl, (trivial)⟩ dX10_clock_157
          · skip
            refine lv_tableIn (tgt := 158) hC.x hC.b dX10_clock_56 (by omega) (by omega) (by rw [sw_15]; rfl) (by decide) ?_
            refine lv_iload hC.x hC.b dX10_clock_158 (lv_at hl 3 rfl) ?_
            exact reti hC hK hR hS ⟨rfl, (trivial)⟩ dX10_clock_160
          · skip
            refine lv_tableIn (tgt := 161) hC.x hC.b dX10_clock_56 (by omega) (by omega) (by rw [sw_15]; rfl) (by decide) ?_
            refine lv_aload_n hC.x hC.b dX10_clock_161 rfl (lv_at hl 0 rfl) ?_
            refine rget hC hK hR (ct_model G _ _) rfl uin_X10 6 (by decide) TF_X10_29 rfl dX10_clock_162 ?_
            refine lv_iload_n hC.x hC.b dX10_clock_165 rfl (lv_at hl 1 rfl) ?_
            refine ald hC hK hR (ct_m_setting G _ _) rfl (by omega) (by omega) hp_q dX10_clock_166 ?_
            exact reti hC hK hR hS ⟨rfl, (trivial)⟩ dX10_clock_167
          · skip
            refine lv_tableIn (tgt := 168) hC.x hC.b dX10_clock_56 (by omega) (by omega) (by rw [sw_15]; rfl) (by decide) ?_
            refine lv_aload_n hC.x hC.b dX10_clock_168 rfl (lv_at hl 0 rfl) ?_
            refine rget hC hK hR (ct_model G _ _) rfl uin_X10 1 (by decide) TF_X10_13 rfl dX10_clock_169 ?_
            refine lv_iload_n hC.x hC.b dX10_clock_172 rfl (lv_at hl 1 rfl) ?_
            refine ald hC hK hR (ct_m_one G _ _) rfl (by omega) (by omega) hp_q dX10_clock_173 ?_
            exact reti hC hK hR hS ⟨rfl, (trivial)⟩ dX10_clock_174
          · skip
            refine lv_tableIn (tgt := 175) hC.x hC.b dX10_clock_56 (by omega) (by omega) (by rw [sw_15]; rfl) (by decide) ?_
            refine lv_aload_n hC.x hC.b dX10_clock_175 rfl (lv_at hl 0 rfl) ?_
            refine rget hC hK hR (ct_model G _ _) rfl uin_X10 2 (by decide) TF_X10_16 rfl dX10_clock_176 ?_
            refine lv_iload_n hC.x hC.b dX10_clock_179 rfl (lv_at hl 1 rfl) ?_
            refine ald hC hK hR (ct_m_two G _ _) rfl (by omega) (by omega) hp_q dX10_clock_180 ?_
            exact reti hC hK hR hS ⟨rfl, (trivial)⟩ dX10_clock_181
          · skip
            refine lv_tableIn (tgt := 182) hC.x hC.b dX10_clock_56 (by omega) (by omega) (by rw [sw_15]; rfl) (by decide) ?_
            refine lv_aload_n hC.x hC.b dX10_clock_182 rfl (lv_at hl 0 rfl) ?_
            refine rget hC hK hR (ct_model G _ _) rfl uin_X10 9 (by decide) TF_X10_38 rfl dX10_clock_183 ?_
            refine lv_iload_n hC.x hC.b dX10_clock_186 rfl (lv_at hl 1 rfl) ?_
            refine ald hC hK hR (ct_m_stepMany G _ _) rfl (by omega) (by omega) hp_q dX10_clock_187 ?_
            exact reti hC hK hR hS ⟨rfl, (trivial)⟩ dX10_clock_188
          · skip
            refine lv_tableIn (tgt := 189) hC.x hC.b dX10_clock_56 (by omega) (by omega) (by rw [sw_15]; rfl) (by decide) ?_
            refine lv_aload_n hC.x hC.b dX10_clock_189 rfl (lv_at hl 0 rfl) ?_
            refine rget hC hK hR (ct_model G _ _) rfl uin_X10 10 (by decide) TF_X10_41 rfl dX10_clock_190 ?_
            refine lv_iload_n hC.x hC.b dX10_clock_193 rfl (lv_at hl 1 rfl) ?_
            refine ald hC hK hR (ct_m_drifts G _ _) rfl (by omega) (by omega) hp_q dX10_clock_194 ?_
            exact reti hC hK hR hS ⟨rfl, (trivial)⟩ dX10_clock_195
          · skip
            refine lv_tableOut (tgt := 196) hC.x hC.b dX10_clock_56 (by omega) (by decide) ?_
            refine lv_iconst (v := (-1)) hC.x hC.b dX10_clock_196 (by decide) ?_
            exact reti hC hK hR hS ⟨rfl, (trivial)⟩ dX10_clock_197
        · skip
          refine lv_iload hC.x hC.b dX10_clock_29 (lv_at hl 3 rfl) ?_
          refine lv_aload_n hC.x hC.b dX10_clock_31 rfl (lv_at hl 0 rfl) ?_
          refine lv_iload hC.x hC.b dX10_clock_32 (lv_at hl 4 rfl) ?_
          refine lv_iload_n hC.x hC.b dX10_clock_34 rfl (lv_at hl 1 rfl) ?_
          have av_27 : (nI n).toInt = (n : Int) := (nI_T n (by omega))
          refine goip (runV (As := [.int (nI n), .int pl]) (rest := [.int x4]) hC hK hR hl.1 (c_X10_isX l hG σ τ (nI n) n (by first | rfl | (rw [show (nI n).toInt = (n : Int) from (nI_T n (by omega))]; done) | (rw [show (nI n).toInt = (n : Int) from (nI_T n (by omega))]; exact (Int.toNat_natCast _))) pl q (by first | rfl | (rw [show pl.toInt = pl.toInt from rfl]; done) | (rw [show pl.toInt = pl.toInt from rfl]; exact hp_q)) (by first | assumption | omega) (by omega)) (call_b hC.ts TC_X10_isX TN_X10 TM_X10_172 hd_X10_isX ⟨Nat.le_of_ble_eq_true rfl, Nat.le_of_ble_eq_true rfl⟩) TI_X10_isX TS_X10_isX (ct_model G _ _) rfl rfl rfl (Nat.le_of_ble_eq_true rfl) dX10_clock_35 ⟨Nat.le_of_ble_eq_true rfl, Nat.le_of_ble_eq_true rfl⟩) hS (fun v_28 H locs w_29 hR hS => ?_)
          rcases w_29 with ⟨rfl, f_30, f_31⟩ | rfl
          · skip
            refine bz_eq (tgt := 45) (a := 1) (b := 0) hC.x hC.b rfl rfl dX10_clock_38 (by decide) (fun c_32 => absurd c_32 (by decide)) (fun _ => ?_)
            refine lv_iconst (v := 1) hC.x hC.b dX10_clock_41 (by decide) ?_
            refine lv_goto (tgt := 46) hC.x hC.b dX10_clock_42 (by decide) ?_
            refine lv_iadd hC.x hC.b dX10_clock_46 ?_
            refine lv_istore (lv' := [(4, .int (x4 + (1 : Int32))), (0, .ref (G.2.1 35)), (1, .int pl), (2, .int wa), (5, .int (nI n))]) hC.x hC.b dX10_clock_47 hl (by decide) rfl (fun ls hl => ?_)
            refine lv_iinc (v := nI (n + 1)) (lv' := [(5, .int (nI (n + 1))), (4, .int (x4 + (1 : Int32))), (0, .ref (G.2.1 35)), (1, .int pl), (2, .int wa)]) hC.x hC.b dX10_clock_49 hl (k := 4) rfl (nI_succ _).symm (by decide) rfl (fun ls hl => ?_)
            refine lv_goto (tgt := 20) hC.x hC.b dX10_clock_52 (by decide) ?_
            exact ih_20 (x4 + (1 : Int32)) (n + 1) (by omega) (by first | omega | assumption) _ _ _ hR hS (lv_sub hl [2, 3, 4, 1, 0] rfl)
          · skip
            refine bz_eq (tgt := 45) (a := 0) (b := 0) hC.x hC.b rfl rfl dX10_clock_38 (by decide) (fun _ => ?_) (fun c_33 => absurd c_33 (by decide))
            refine lv_iconst (v := 0) hC.x hC.b dX10_clock_45 (by decide) ?_
            refine lv_iadd hC.x hC.b dX10_clock_46 ?_
            refine lv_istore (lv' := [(4, .int (x4 + (0 : Int32))), (0, .ref (G.2.1 35)), (1, .int pl), (2, .int wa), (5, .int (nI n))]) hC.x hC.b dX10_clock_47 hl (by decide) rfl (fun ls hl => ?_)
            refine lv_iinc (v := nI (n + 1)) (lv' := [(5, .int (nI (n + 1))), (4, .int (x4 + (0 : Int32))), (0, .ref (G.2.1 35)), (1, .int pl), (2, .int wa)]) hC.x hC.b dX10_clock_49 hl (k := 4) rfl (nI_succ _).symm (by decide) rfl (fun ls hl => ?_)
            refine lv_goto (tgt := 20) hC.x hC.b dX10_clock_52 (by decide) ?_
            exact ih_20 (x4 + (0 : Int32)) (n + 1) (by omega) (by first | omega | assumption) _ _ _ hR hS (lv_sub hl [2, 3, 4, 1, 0] rfl)
    exact L_20 _ (0 : Int32) 0 (Nat.lt_succ_self _) (by first | omega | assumption) _ _ _ hR hS (lv_sub hl [3, 4, 5, 1, 0] rfl)
  · skip
    refine lv_istore_n (lv' := [(3, .int (-2 : Int32)), (0, .ref (G.2.1 35)), (1, .int pl), (2, .int wa)]) hC.x hC.b dX10_clock_7 rfl hl (by decide) rfl (fun ls hl => ?_)
    refine lv_iload_n hC.x hC.b dX10_clock_8 rfl (lv_at hl 0 rfl) ?_
    refine bz_eq (tgt := 14) (a := (-2)) (b := 0) hC.x hC.b rfl rfl dX10_clock_9 (by decide) (fun c_34 => absurd c_34 (by decide)) (fun _ => ?_)
    refine lv_iload_n hC.x hC.b dX10_clock_12 rfl (lv_at hl 0 rfl) ?_
    exact reti hC hK hR hS ⟨rfl, (trivial)⟩ dX10_clock_13

abbrev po_X10_foretell (σ : SI) (τ : SL) (pl : Int32) (q : Nat) : Int32 → SI × SL → Prop := fun v u => ((MRel (fun _ => False) (fun j => j = 44) σ u.1))
set_option maxRecDepth 100000 in
set_option maxHeartbeats 4000000 in
theorem c_X10_foretell (l : Launch) {G : Gx} {A : Nat → Prop} (hG : GOk G A) (σ : SI) (τ : SL) (pl : Int32) (q : Nat) (hp_q : pl.toInt.toNat = q) (hnw : 0 ≤ (σ 35 29).toInt ∧ (σ 35 29).toInt ≤ 200) (hcl : ClM σ) : MI l G A 5 yX10_foretell cX10_foretell 3 (some .int) [.ref (G.2.1 35), .int pl] (σ, τ) (po_X10_foretell σ τ pl q) := by
  refine met_of (own := RX10) (by decide +kernel) rfl [(0, .ref (G.2.1 35)), (1, .int pl)] rfl (Nat.le_of_ble_eq_true rfl) ?_
  intro p e s m args below meth c ls hC hK hR hl
  have hS : va_S A s.heap s.heap [] := va_S.rf
  refine lv_aload_n hC.x hC.b dX10_foretell_0 rfl (lv_at hl 0 rfl) ?_
  refine lv_iload_n hC.x hC.b dX10_foretell_1 rfl (lv_at hl 1 rfl) ?_
  refine lv_iconst (v := 0) hC.x hC.b dX10_foretell_2 (by decide) ?_
  refine lv_iconst (v := 3) hC.x hC.b dX10_foretell_3 (by decide) ?_
  have av_1 : (0 : Int32).toInt = 0 := by decide
  have av_2 : (3 : Int32).toInt = 3 := by decide
  refine goip (runV (As := [.int pl, .int (0 : Int32), .int (3 : Int32)]) (rest := []) hC hK hR hl.1 (c_X10_fails l hG σ τ pl q (by first | rfl | (rw [show pl.toInt = pl.toInt from rfl]; done) | (rw [show pl.toInt = pl.toInt from rfl]; exact hp_q)) (0 : Int32) (3 : Int32) ) (call_b hC.ts TC_X10_fails TN_X10 TM_X10_144 hd_X10_fails ⟨Nat.le_of_ble_eq_true rfl, Nat.le_of_ble_eq_true rfl⟩) TI_X10_fails TS_X10_fails (ct_model G _ _) rfl rfl rfl (Nat.le_of_ble_eq_true rfl) dX10_foretell_4 ⟨Nat.le_of_ble_eq_true rfl, Nat.le_of_ble_eq_true rfl⟩) hS (fun v_3 H locs w_4 hR hS => ?_)
  rcases w_4 with ⟨rfl, f_5⟩ | ⟨rfl, f_6, f_7, f_8⟩ | ⟨rfl, f_9, f_10, f_11⟩
  · skip
    refine lv_istore_n (lv' := [(2, .int (-1 : Int32)), (0, .ref (G.2.1 35)), (1, .int pl)]) hC.x hC.b dX10_foretell_7 rfl hl (by decide) rfl (fun ls hl => ?_)
    refine lv_iload_n hC.x hC.b dX10_foretell_8 rfl (lv_at hl 0 rfl) ?_
    refine bz_eq (tgt := 16) (a := (-1)) (b := 0) hC.x hC.b rfl rfl dX10_foretell_9 (by decide) (fun c_12 => absurd c_12 (by decide)) (fun _ => ?_)
    refine lv_iload_n hC.x hC.b dX10_foretell_12 rfl (lv_at hl 0 rfl) ?_
    refine lv_goto (tgt := 21) hC.x hC.b dX10_foretell_13 (by decide) ?_
    exact reti hC hK hR hS (by exact MRel.rf) dX10_foretell_21
  · skip
    refine lv_istore_n (lv' := [(2, .int (0 : Int32)), (0, .ref (G.2.1 35)), (1, .int pl)]) hC.x hC.b dX10_foretell_7 rfl hl (by decide) rfl (fun ls hl => ?_)
    refine lv_iload_n hC.x hC.b dX10_foretell_8 rfl (lv_at hl 0 rfl) ?_
    refine bz_eq (tgt := 16) (a := 0) (b := 0) hC.x hC.b rfl rfl dX10_foretell_9 (by decide) (fun _ => ?_) (fun c_13 => absurd c_13 (by decide))
    refine lv_aload_n hC.x hC.b dX10_foretell_16 rfl (lv_at hl 1 rfl) ?_
    refine lv_iload_n hC.x hC.b dX10_foretell_17 rfl (lv_at hl 2 rfl) ?_
    have hcq := hcl q (by omega) ⟨by omega, by omega⟩
    refine goi (runV (As := [.int pl]) (rest := []) hC hK hR hl.1 (c_X10_foretold l hG σ τ pl q (by first | rfl | (rw [show pl.toInt = pl.toInt from rfl]; done) | (rw [show pl.toInt = pl.toInt from rfl]; exact hp_q)) (by first | assumption | omega) (by omega) (by first | assumption | omega)) (call_b hC.ts TC_X10_foretold TN_X10 TM_X10_210 hd_X10_foretold ⟨Nat.le_of_ble_eq_true rfl, Nat.le_of_ble_eq_true rfl⟩) TI_X10_foretold TS_X10_foretold (ct_model G _ _) rfl rfl rfl (Nat.le_of_ble_eq_true rfl) dX10_foretell_18 ⟨Nat.le_of_ble_eq_true rfl, Nat.le_of_ble_eq_true rfl⟩) hS (fun v_14 s_16 t_17 H locs w_15 hR hS => ?_)
    try dsimp only [po_X10_foretold] at w_15
    have f_18 := w_15
    exact reti hC hK hR hS (by exact (MRel.tr MRel.rf f_18)) dX10_foretell_21
  · skip
    refine lv_istore_n (lv' := [(2, .int (-2 : Int32)), (0, .ref (G.2.1 35)), (1, .int pl)]) hC.x hC.b dX10_foretell_7 rfl hl (by decide) rfl (fun ls hl => ?_)
    refine lv_iload_n hC.x hC.b dX10_foretell_8 rfl (lv_at hl 0 rfl) ?_
    refine bz_eq (tgt := 16) (a := (-2)) (b := 0) hC.x hC.b rfl rfl dX10_foretell_9 (by decide) (fun c_19 => absurd c_19 (by decide)) (fun _ => ?_)
    refine lv_iload_n hC.x hC.b dX10_foretell_12 rfl (lv_at hl 0 rfl) ?_
    refine lv_goto (tgt := 21) hC.x hC.b dX10_foretell_13 (by decide) ?_
    exact reti hC hK hR hS (by exact MRel.rf) dX10_foretell_21

abbrev po_X10_weight (σ : SI) (τ : SL) (pl : Int32) (q : Nat) : Int32 → SI × SL → Prop := fun v u => ((MRel (fun _ => False) (fun j => j = 44) σ u.1))
set_option maxRecDepth 100000 in
set_option maxHeartbeats 4000000 in
theorem c_X10_weight (l : Launch) {G : Gx} {A : Nat → Prop} (hG : GOk G A) (σ : SI) (τ : SL) (pl : Int32) (q : Nat) (hp_q : pl.toInt.toNat = q) (hnw : 0 ≤ (σ 35 29).toInt ∧ (σ 35 29).toInt ≤ 200) (hcl : ClM σ) (hkm : KM σ) : MI l G A 6 yX10_weight cX10_weight 3 (some .int) [.ref (G.2.1 35), .int pl] (σ, τ) (po_X10_weight σ τ pl q) := by
  refine met_of (own := RX10) (by decide +kernel) rfl [(0, .ref (G.2.1 35)), (1, .int pl)] rfl (Nat.le_of_ble_eq_true rfl) ?_
  intro p e s m args below meth c ls hC hK hR hl
  have hS : va_S A s.heap s.heap [] := va_S.rf
  refine lv_aload_n hC.x hC.b dX10_weight_0 rfl (lv_at hl 0 rfl) ?_
  refine lv_iload_n hC.x hC.b dX10_weight_1 rfl (lv_at hl 1 rfl) ?_
  refine lv_iconst (v := 0) hC.x hC.b dX10_weight_2 (by decide) ?_
  refine lv_iconst (v := 3) hC.x hC.b dX10_weight_3 (by decide) ?_
  have av_1 : (0 : Int32).toInt = 0 := by decide
  have av_2 : (3 : Int32).toInt = 3 := by decide
  refine goip (runV (As := [.int pl, .int (0 : Int32), .int (3 : Int32)]) (rest := []) hC hK hR hl.1 (c_X10_fails l hG σ τ pl q (by first | rfl | (rw [show pl.toInt = pl.toInt from rfl]; done) | (rw [show pl.toInt = pl.toInt from rfl]; exact hp_q)) (0 : Int32) (3 : Int32) ) (call_b hC.ts TC_X10_fails TN_X10 TM_X10_144 hd_X10_fails ⟨Nat.le_of_ble_eq_true rfl, Nat.le_of_ble_eq_true rfl⟩) TI_X10_fails TS_X10_fails (ct_model G _ _) rfl rfl rfl (Nat.le_of_ble_eq_true rfl) dX10_weight_4 ⟨Nat.le_of_ble_eq_true rfl, Nat.le_of_ble_eq_true rfl⟩) hS (fun v_3 H locs w_4 hR hS => ?_)
  rcases w_4 with ⟨rfl, f_5⟩ | ⟨rfl, f_6, f_7, f_8⟩ | ⟨rfl, f_9, f_10, f_11⟩
  · skip
    refine lv_istore_n (lv' := [(2, .int (-1 : Int32)), (0, .ref (G.2.1 35)), (1, .int pl)]) hC.x hC.b dX10_weight_7 rfl hl (by decide) rfl (fun ls hl => ?_)
    refine lv_iload_n hC.x hC.b dX10_weight_8 rfl (lv_at hl 0 rfl) ?_
    refine bz_eq (tgt := 16) (a := (-1)) (b := 0) hC.x hC.b rfl rfl dX10_weight_9 (by decide) (fun c_12 => absurd c_12 (by decide)) (fun _ => ?_)
    refine lv_iload_n hC.x hC.b dX10_weight_12 rfl (lv_at hl 0 rfl) ?_
    refine lv_goto (tgt := 21) hC.x hC.b dX10_weight_13 (by decide) ?_
    exact reti hC hK hR hS (by exact MRel.rf) dX10_weight_21
  · skip
    refine lv_istore_n (lv' := [(2, .int (0 : Int32)), (0, .ref (G.2.1 35)), (1, .int pl)]) hC.x hC.b dX10_weight_7 rfl hl (by decide) rfl (fun ls hl => ?_)
    refine lv_iload_n hC.x hC.b dX10_weight_8 rfl (lv_at hl 0 rfl) ?_
    refine bz_eq (tgt := 16) (a := 0) (b := 0) hC.x hC.b rfl rfl dX10_weight_9 (by decide) (fun _ => ?_) (fun c_13 => absurd c_13 (by decide))
    refine lv_aload_n hC.x hC.b dX10_weight_16 rfl (lv_at hl 1 rfl) ?_
    refine lv_iload_n hC.x hC.b dX10_weight_17 rfl (lv_at hl 2 rfl) ?_
    have hcq := hcl q (by omega) ⟨by omega, by omega⟩
    refine goi (runV (As := [.int pl]) (rest := []) hC hK hR hl.1 (c_X10_full l hG σ τ pl q (by first | rfl | (rw [show pl.toInt = pl.toInt from rfl]; done) | (rw [show pl.toInt = pl.toInt from rfl]; exact hp_q)) (by first | assumption | omega) (by omega) (by first | assumption | omega) (by exact hkm)) (call_b hC.ts TC_X10_full TN_X10 TM_X10_225 hd_X10_full ⟨Nat.le_of_ble_eq_true rfl, Nat.le_of_ble_eq_true rfl⟩) TI_X10_full TS_X10_full (ct_model G _ _) rfl rfl rfl (Nat.le_of_ble_eq_true rfl) dX10_weight_18 ⟨Nat.le_of_ble_eq_true rfl, Nat.le_of_ble_eq_true rfl⟩) hS (fun v_14 s_16 t_17 H locs w_15 hR hS => ?_)
    try dsimp only [po_X10_full] at w_15
    have f_18 := w_15
    exact reti hC hK hR hS (by exact (MRel.tr MRel.rf f_18)) dX10_weight_21
  · skip
    refine lv_istore_n (lv' := [(2, .int (-2 : Int32)), (0, .ref (G.2.1 35)), (1, .int pl)]) hC.x hC.b dX10_weight_7 rfl hl (by decide) rfl (fun ls hl => ?_)
    refine lv_iload_n hC.x hC.b dX10_weight_8 rfl (lv_at hl 0 rfl) ?_
    refine bz_eq (tgt := 16) (a := (-2)) (b := 0) hC.x hC.b rfl rfl dX10_weight_9 (by decide) (fun c_19 => absurd c_19 (by decide)) (fun _ => ?_)
    refine lv_iload_n hC.x hC.b dX10_weight_12 rfl (lv_at hl 0 rfl) ?_
    refine lv_goto (tgt := 21) hC.x hC.b dX10_weight_13 (by decide) ?_
    exact reti hC hK hR hS (by exact MRel.rf) dX10_weight_21

abbrev po_X10_common (σ : SI) (τ : SL) (xa : Int64) (ya : Int64) : Int64 → SI × SL → Prop := fun v u => u = (σ, τ) ∧ (((v.toInt ≠ 0)))
set_option maxRecDepth 100000 in
set_option maxHeartbeats 4000000 in
theorem cm_step (l : Launch) {G : Gx} {A : Nat → Prop} (hG : GOk G A) (σ : SI) (τ : SL) (d : Nat) (xa : Int64) (ya : Int64) (hab : xa.toInt ≠ 0 ∨ ya.toInt ≠ 0) (hrec : ya.toInt ≠ 0 → ML l G A d yX10_common cX10_common 4 (some .long) [.long ya, .long (xa - xa / ya * ya)] (σ, τ) (po_X10_common σ τ ya (xa - xa / ya * ya))) :
    ML l G A (d + 1) yX10_common cX10_common 4 (some .long) [.long xa, .long ya] (σ, τ) (po_X10_common σ τ xa ya) := by
  refine met_of (own := RX10) (by decide +kernel) rfl [(0, .long xa), (2, .long ya)] rfl (Nat.le_of_ble_eq_true rfl) ?_
  intro p e s m args below meth c ls hC hK hR hl
  have hS : va_S A s.heap s.heap [] := va_S.rf
  refine lv_lload_n hC.x hC.b dX10_common_0 rfl (lv_at hl 1 rfl) ?_
  refine lv_lconst (v := 0) hC.x hC.b dX10_common_1 (by decide) ?_
  refine bl_ne (tgt := 10) (a := ya.toInt) (b := 0) hC.x hC.b rfl rfl dX10_common_2 dX10_common_3 (by decide) (fun c_1 => ?_) (fun c_1 => ?_)
  · refine lv_lload_n hC.x hC.b dX10_common_10 rfl (lv_at hl 1 rfl) ?_
    refine lv_lload_n hC.x hC.b dX10_common_11 rfl (lv_at hl 0 rfl) ?_
    refine lv_lload_n hC.x hC.b dX10_common_12 rfl (lv_at hl 1 rfl) ?_
    refine lv_lrem hC.x hC.b dX10_common_13 (ne0L rfl (by omega)) ?_
    refine golp (runS (As := [.long ya, .long (xa - xa / ya * ya)]) (rest := []) hC hK hR hl.1 (hrec (by omega)) (call_b (d := d) hC.ts TC_X10_common TN_X10 TM_X10_222 hd_X10_common ⟨Nat.le_refl _, by show 8 + (4 + 11) + 40 * d ≤ 40 * (d + 1); omega⟩) TT_X10_common rfl rfl (Nat.le_of_ble_eq_true rfl) dX10_common_14 ⟨Nat.zero_le _, Nat.zero_le _⟩) hS (fun v_2 H locs w_3 hR hS => ?_)
    exact retl hC hK hR hS ⟨rfl, w_3⟩ dX10_common_17
  · refine lv_lload_n hC.x hC.b dX10_common_6 rfl (lv_at hl 0 rfl) ?_
    refine lv_goto (tgt := 17) hC.x hC.b dX10_common_7 (by decide) ?_
    exact retl hC hK hR hS ⟨rfl, by show xa.toInt ≠ 0; omega⟩ dX10_common_17
theorem cm_all (l : Launch) {G : Gx} {A : Nat → Prop} (hG : GOk G A) (σ : SI) (τ : SL) : ∀ (k : Nat) (xa ya : Int64), ya.toInt.natAbs < 2 ^ k → (xa.toInt ≠ 0 ∨ ya.toInt ≠ 0) →
    ML l G A (2 * k + 1) yX10_common cX10_common 4 (some .long) [.long xa, .long ya] (σ, τ) (po_X10_common σ τ xa ya)
  | 0, xa, ya, h, hab => cm_step l hG σ τ 0 xa ya hab (fun hy => absurd hy (by have h2 : ya.toInt.natAbs < 1 := h; omega))
  | k + 1, xa, ya, h, hab => by
    have e : 2 * (k + 1) + 1 = (2 * k + 2) + 1 := by omega
    rw [e]
    refine cm_step l hG σ τ (2 * k + 2) xa ya hab (fun hy => ?_)
    have e2 : 2 * k + 2 = (2 * k + 1) + 1 := by omega
    rw [e2]
    refine cm_step l hG σ τ (2 * k + 1) ya (xa - xa / ya * ya) (Or.inl hy) (fun hr => ?_)
    have h1 := rem_T (x := xa) hy
    have h2 := rem_T (x := ya) hr
    have h3 := tmod_lt (x := xa.toInt) hy
    rw [← h1] at h3
    have h4 := tmod_half h3 hr
    rw [← h2] at h4
    have h5 : (2 : Nat) ^ (k + 1) = 2 * 2 ^ k := by rw [Nat.pow_succ, Nat.mul_comm]
    exact cm_all l hG σ τ k _ _ (by omega) (Or.inl hr)
theorem c_X10_common (l : Launch) {G : Gx} {A : Nat → Prop} (hG : GOk G A) (σ : SI) (τ : SL) (xa : Int64) (ya : Int64) (hcb : -32768 < ya.toInt ∧ ya.toInt < 32768) (hab : xa.toInt ≠ 0 ∨ ya.toInt ≠ 0) : ML l G A 31 yX10_common cX10_common 4 (some .long) [.long xa, .long ya] (σ, τ) (po_X10_common σ τ xa ya) :=
  cm_all l hG σ τ 15 xa ya (by show ya.toInt.natAbs < 32768; omega) hab

abbrev po_X10_slope (σ : SI) (τ : SL) (pl : Int32) (q : Nat) (wa : Int32) : Int32 → SI × SL → Prop := fun v u => ((MRel (fun _ => False) (fun j => j = 44) σ u.1))
set_option maxRecDepth 100000 in
set_option maxHeartbeats 4000000 in
theorem c_X10_slope (l : Launch) {G : Gx} {A : Nat → Prop} (hG : GOk G A) (σ : SI) (τ : SL) (pl : Int32) (q : Nat) (hp_q : pl.toInt.toNat = q) (wa : Int32) (hnw : 0 ≤ (σ 35 29).toInt ∧ (σ 35 29).toInt ≤ 200) (hcl : ClM σ) : MI l G A 32 yX10_slope cX10_slope 8 (some .int) [.ref (G.2.1 35), .int pl, .int wa] (σ, τ) (po_X10_slope σ τ pl q wa) := by
  refine met_of (own := RX10) (by decide +kernel) rfl [(0, .ref (G.2.1 35)), (1, .int pl), (2, .int wa)] rfl (Nat.le_of_ble_eq_true rfl) ?_
  intro p e s m args below meth c ls hC hK hR hl
  have hS : va_S A s.heap s.heap [] := va_S.rf
  refine lv_aload_n hC.x hC.b dX10_slope_0 rfl (lv_at hl 0 rfl) ?_
  refine lv_iload_n hC.x hC.b dX10_slope_1 rfl (lv_at hl 1 rfl) ?_
  refine lv_iconst (v := 0) hC.x hC.b dX10_slope_2 (by decide) ?_
  refine lv_iconst (v := 3) hC.x hC.b dX10_slope_3 (by decide) ?_
  have av_1 : (0 : Int32).toInt = 0 := by decide
  have av_2 : (3 : Int32).toInt = 3 := by decide
  refine goip (runV (As := [.int pl, .int (0 : Int32), .int (3 : Int32)]) (rest := []) hC hK hR hl.1 (c_X10_fails l hG σ τ pl q (by first | rfl | (rw [show pl.toInt = pl.toInt from rfl]; done) | (rw [show pl.toInt = pl.toInt from rfl]; exact hp_q)) (0 : Int32) (3 : Int32) ) (call_b hC.ts TC_X10_fails TN_X10 TM_X10_144 hd_X10_fails ⟨Nat.le_of_ble_eq_true rfl, Nat.le_of_ble_eq_true rfl⟩) TI_X10_fails TS_X10_fails (ct_model G _ _) rfl rfl rfl (Nat.le_of_ble_eq_true rfl) dX10_slope_4 ⟨Nat.le_of_ble_eq_true rfl, Nat.le_of_ble_eq_true rfl⟩) hS (fun v_3 H locs w_4 hR hS => ?_)
  rcases w_4 with ⟨rfl, f_5⟩ | ⟨rfl, f_6, f_7, f_8⟩ | ⟨rfl, f_9, f_10, f_11⟩
  · skip
    refine lv_istore_n (lv' := [(3, .int (-1 : Int32)), (0, .ref (G.2.1 35)), (1, .int pl), (2, .int wa)]) hC.x hC.b dX10_slope_7 rfl hl (by decide) rfl (fun ls hl => ?_)
    refine lv_iload_n hC.x hC.b dX10_slope_8 rfl (lv_at hl 0 rfl) ?_
    refine bz_eq (tgt := 14) (a := (-1)) (b := 0) hC.x hC.b rfl rfl dX10_slope_9 (by decide) (fun c_12 => absurd c_12 (by decide)) (fun _ => ?_)
    refine lv_iload_n hC.x hC.b dX10_slope_12 rfl (lv_at hl 0 rfl) ?_
    exact reti hC hK hR hS (by exact MRel.rf) dX10_slope_13
  · skip
    refine lv_istore_n (lv' := [(3, .int (0 : Int32)), (0, .ref (G.2.1 35)), (1, .int pl), (2, .int wa)]) hC.x hC.b dX10_slope_7 rfl hl (by decide) rfl (fun ls hl => ?_)
    refine lv_iload_n hC.x hC.b dX10_slope_8 rfl (lv_at hl 0 rfl) ?_
    refine bz_eq (tgt := 14) (a := 0) (b := 0) hC.x hC.b rfl rfl dX10_slope_9 (by decide) (fun _ => ?_) (fun c_13 => absurd c_13 (by decide))
    refine lv_iload_n hC.x hC.b dX10_slope_14 rfl (lv_at hl 3 rfl) ?_
    refine lv_iconst (v := 0) hC.x hC.b dX10_slope_15 (by decide) ?_
    refine lv_iconst (v := 1) hC.x hC.b dX10_slope_16 (by decide) ?_
    have av_14 : (0 : Int32).toInt = 0 := by decide
    have av_15 : (1 : Int32).toInt = 1 := by decide
    refine goip (runS (As := [.int wa, .int (0 : Int32), .int (1 : Int32)]) (rest := []) hC hK hR hl.1 (c_X10_isIn l hG σ τ wa (0 : Int32) (1 : Int32) ) (call_b hC.ts TC_X10_isIn TN_X10 TM_X10_129 hd_X10_isIn ⟨Nat.le_of_ble_eq_true rfl, Nat.le_of_ble_eq_true rfl⟩) TT_X10_isIn rfl rfl (Nat.le_of_ble_eq_true rfl) dX10_slope_17 ⟨Nat.le_of_ble_eq_true rfl, Nat.le_of_ble_eq_true rfl⟩) hS (fun v_16 H locs w_17 hR hS => ?_)
    rcases w_17 with ⟨rfl, f_18, f_19⟩ | ⟨rfl, f_20⟩
    · skip
      refine bz_ne (tgt := 25) (a := 1) (b := 0) hC.x hC.b rfl rfl dX10_slope_20 (by decide) (fun _ => ?_) (fun c_21 => absurd c_21 (by decide))
      refine lv_aload_n hC.x hC.b dX10_slope_25 rfl (lv_at hl 1 rfl) ?_
      refine lv_iload_n hC.x hC.b dX10_slope_26 rfl (lv_at hl 2 rfl) ?_
      refine lv_aload_n hC.x hC.b dX10_slope_27 rfl (lv_at hl 1 rfl) ?_
      refine lv_iload_n hC.x hC.b dX10_slope_28 rfl (lv_at hl 2 rfl) ?_
      have hcq := hcl q (by omega) ⟨by omega, by omega⟩
      refine goip (runV (As := [.int pl]) (rest := [.int pl, .ref (G.2.1 35)]) hC hK hR hl.1 (c_X10_byGains l hG σ τ pl q (by first | rfl | (rw [show pl.toInt = pl.toInt from rfl]; done) | (rw [show pl.toInt = pl.toInt from rfl]; exact hp_q)) (by first | assumption | omega) (by omega)) (call_b hC.ts TC_X10_byGains TN_X10 TM_X10_196 hd_X10_byGains ⟨Nat.le_of_ble_eq_true rfl, Nat.le_of_ble_eq_true rfl⟩) TI_X10_byGains TS_X10_byGains (ct_model G _ _) rfl rfl rfl (Nat.le_of_ble_eq_true rfl) dX10_slope_29 ⟨Nat.le_of_ble_eq_true rfl, Nat.le_of_ble_eq_true rfl⟩) hS (fun v_22 H locs w_23 hR hS => ?_)
      rcases w_23 with ⟨rfl, f_24⟩ | rfl
      · skip
        have av_25 : (1 : Int32).toInt = 1 := by decide
        refine gov (runV (As := [.int pl, .int (1 : Int32)]) (rest := []) hC hK hR hl.1 (c_X10_line l hG σ τ pl q (by first | rfl | (rw [show pl.toInt = pl.toInt from rfl]; done) | (rw [show pl.toInt = pl.toInt from rfl]; exact hp_q)) (1 : Int32) (by first | assumption | omega) (by omega) (by first | assumption | omega)) (call_b hC.ts TC_X10_line TN_X10 TM_X10_199 hd_X10_line ⟨Nat.le_of_ble_eq_true rfl, Nat.le_of_ble_eq_true rfl⟩) TI_X10_line TS_X10_line (ct_model G _ _) rfl rfl rfl (Nat.le_of_ble_eq_true rfl) dX10_slope_32 ⟨Nat.le_of_ble_eq_true rfl, Nat.le_of_ble_eq_true rfl⟩) hS (fun s_28 t_29 H locs w_27 hR hS => ?_)
        try dsimp only [po_X10_line] at w_27
        obtain ⟨f_30, f_31⟩ := w_27
        refine lv_aload_n hC.x hC.b dX10_slope_35 rfl (lv_at hl 1 rfl) ?_
        refine rget hC hK hR (ct_model G _ _) rfl uin_X10 44 (by decide) TF_X10_176 rfl dX10_slope_36 ?_
        refine bz_ne (tgt := 45) (a := (s_28 35 44).toInt) (b := 0) hC.x hC.b rfl rfl dX10_slope_39 (by decide) (fun c_32 => ?_) (fun c_32 => ?_)
        · skip
          refine lv_aload_n hC.x hC.b dX10_slope_45 rfl (lv_at hl 1 rfl) ?_
          refine rget hC hK hR (ct_model G _ _) rfl uin_X10 45 (by decide) TF_X10_182 rfl dX10_slope_46 ?_
          refine lv_lconst (v := 0) hC.x hC.b dX10_slope_49 (by decide) ?_
          refine bl_ge (tgt := 62) (a := (t_29 35 45).toInt) (b := 0) hC.x hC.b rfl rfl dX10_slope_50 dX10_slope_51 (by decide) (fun c_33 => ?_) (fun c_33 => ?_)
          · skip
            refine lv_aload_n hC.x hC.b dX10_slope_62 rfl (lv_at hl 1 rfl) ?_
            refine rget hC hK hR (ct_model G _ _) rfl uin_X10 45 (by decide) TF_X10_182 rfl dX10_slope_63 ?_
            refine lv_aload_n hC.x hC.b dX10_slope_66 rfl (lv_at hl 1 rfl) ?_
            refine rget hC hK hR (ct_model G _ _) rfl uin_X10 46 (by decide) TF_X10_186 rfl dX10_slope_67 ?_
            refine golp (runS (As := [.long (t_29 35 45), .long (t_29 35 46)]) (rest := []) hC hK hR hl.1 (c_X10_common l hG s_28 t_29 (t_29 35 45) (t_29 35 46) (by omega) (by omega)) (call_b hC.ts TC_X10_common TN_X10 TM_X10_222 hd_X10_common ⟨Nat.le_of_ble_eq_true rfl, Nat.le_of_ble_eq_true rfl⟩) TT_X10_common rfl rfl (Nat.le_of_ble_eq_true rfl) dX10_slope_70 ⟨Nat.le_of_ble_eq_true rfl, Nat.le_of_ble_eq_true rfl⟩) hS (fun v_34 H locs w_35 hR hS => ?_)
            have f_36 := w_35
            refine lv_lstore (lv' := [(4, .long v_34), (3, .int (0 : Int32)), (0, .ref (G.2.1 35)), (1, .int pl), (2, .int wa)]) hC.x hC.b dX10_slope_73 hl (by decide) rfl (fun ls hl => ?_)
            refine lv_iload_n hC.x hC.b dX10_slope_75 rfl (lv_at hl 4 rfl) ?_
            refine bz_ne (tgt := 89) (a := wa.toInt) (b := 0) hC.x hC.b rfl rfl dX10_slope_76 (by decide) (fun c_37 => ?_) (fun c_37 => ?_)
            · skip
              refine lv_aload_n hC.x hC.b dX10_slope_89 rfl (lv_at hl 2 rfl) ?_
              refine rget hC hK hR (ct_model G _ _) rfl uin_X10 46 (by decide) TF_X10_186 rfl dX10_slope_90 ?_
              refine lv_lload hC.x hC.b dX10_slope_93 (lv_at hl 0 rfl) ?_
              refine lv_ldiv hC.x hC.b dX10_slope_95 (ne0L rfl (by omega)) ?_
              refine lv_lstore (lv' := [(6, .long ((t_29 35 46) / v_34)), (4, .long v_34), (3, .int (0 : Int32)), (0, .ref (G.2.1 35)), (1, .int pl), (2, .int wa)]) hC.x hC.b dX10_slope_96 hl (by decide) rfl (fun ls hl => ?_)
              refine lv_lload hC.x hC.b dX10_slope_98 (lv_at hl 0 rfl) ?_
              refine lv_ldc2 hC.x hC.b hC.ow (hC.ts _ TK_X10_204) dX10_slope_100 ?_
              refine bl_le (tgt := 112) (a := ((t_29 35 46) / v_34).toInt) (b := 1000000000) hC.x hC.b rfl rfl dX10_slope_103 dX10_slope_104 (by decide) (fun c_38 => ?_) (fun c_38 => ?_)
              · skip
                refine lv_lload hC.x hC.b dX10_slope_112 (lv_at hl 0 rfl) ?_
                refine lv_ldc2 hC.x hC.b hC.ow (hC.ts _ TK_X10_207) dX10_slope_114 ?_
                refine bl_ge (tgt := 126) (a := ((t_29 35 46) / v_34).toInt) (b := (-1000000000)) hC.x hC.b rfl rfl dX10_slope_117 dX10_slope_118 (by decide) (fun c_39 => ?_) (fun c_39 => ?_)
                · skip
                  refine lv_lload hC.x hC.b dX10_slope_126 (lv_at hl 0 rfl) ?_
                  refine lv_l2i hC.x hC.b dX10_slope_128 rfl ?_
                  exact reti hC hK hR hS (by exact (MRel.tr MRel.rf f_30)) dX10_slope_129
                · skip
                  refine lv_ldc hC.x hC.b hC.ow (hC.ts _ TK_X10_209) dX10_slope_121 ?_
                  refine lv_goto (tgt := 129) hC.x hC.b dX10_slope_123 (by decide) ?_
                  exact reti hC hK hR hS (by exact (MRel.tr MRel.rf f_30)) dX10_slope_129
              · skip
                refine lv_ldc hC.x hC.b hC.ow (hC.ts _ TK_X10_206) dX10_slope_107 ?_
                refine lv_goto (tgt := 129) hC.x hC.b dX10_slope_109 (by decide) ?_
                exact reti hC hK hR hS (by exact (MRel.tr MRel.rf f_30)) dX10_slope_129
            · skip
              refine lv_aload_n hC.x hC.b dX10_slope_79 rfl (lv_at hl 2 rfl) ?_
              refine rget hC hK hR (ct_model G _ _) rfl uin_X10 45 (by decide) TF_X10_182 rfl dX10_slope_80 ?_
              refine lv_lload hC.x hC.b dX10_slope_83 (lv_at hl 0 rfl) ?_
              refine lv_ldiv hC.x hC.b dX10_slope_85 (ne0L rfl (by omega)) ?_
              refine lv_goto (tgt := 96) hC.x hC.b dX10_slope_86 (by decide) ?_
              refine lv_lstore (lv' := [(6, .long ((t_29 35 45) / v_34)), (4, .long v_34), (3, .int (0 : Int32)), (0, .ref (G.2.1 35)), (1, .int pl), (2, .int wa)]) hC.x hC.b dX10_slope_96 hl (by decide) rfl (fun ls hl => ?_)
              refine lv_lload hC.x hC.b dX10_slope_98 (lv_at hl 0 rfl) ?_
              refine lv_ldc2 hC.x hC.b hC.ow (hC.ts _ TK_X10_204) dX10_slope_100 ?_
              refine bl_le (tgt := 112) (a := ((t_29 35 45) / v_34).toInt) (b := 1000000000) hC.x hC.b rfl rfl dX10_slope_103 dX10_slope_104 (by decide) (fun c_40 => ?_) (fun c_40 => ?_)
              · skip
                refine lv_lload hC.x hC.b dX10_slope_112 (lv_at hl 0 rfl) ?_
                refine lv_ldc2 hC.x hC.b hC.ow (hC.ts _ TK_X10_207) dX10_slope_114 ?_
                refine bl_ge (tgt := 126) (a := ((t_29 35 45) / v_34).toInt) (b := (-1000000000)) hC.x hC.b rfl rfl dX10_slope_117 dX10_slope_118 (by decide) (fun c_41 => ?_) (fun c_41 => ?_)
                · skip
                  refine lv_lload hC.x hC.b dX10_slope_126 (lv_at hl 0 rfl) ?_
                  refine lv_l2i hC.x hC.b dX10_slope_128 rfl ?_
                  exact reti hC hK hR hS (by exact (MRel.tr MRel.rf f_30)) dX10_slope_129
                · skip
                  refine lv_ldc hC.x hC.b hC.ow (hC.ts _ TK_X10_209) dX10_slope_121 ?_
                  refine lv_goto (tgt := 129) hC.x hC.b dX10_slope_123 (by decide) ?_
                  exact reti hC hK hR hS (by exact (MRel.tr MRel.rf f_30)) dX10_slope_129
              · skip
                refine lv_ldc hC.x hC.b hC.ow (hC.ts _ TK_X10_206) dX10_slope_107 ?_
                refine lv_goto (tgt := 129) hC.x hC.b dX10_slope_109 (by decide) ?_
                exact reti hC hK hR hS (by exact (MRel.tr MRel.rf f_30)) dX10_slope_129
          · skip
            refine lv_aload_n hC.x hC.b dX10_slope_54 rfl (lv_at hl 1 rfl) ?_
            refine rget hC hK hR (ct_model G _ _) rfl uin_X10 45 (by decide) TF_X10_182 rfl dX10_slope_55 ?_
            refine lv_lneg hC.x hC.b dX10_slope_58 ?_
            refine lv_goto (tgt := 66) hC.x hC.b dX10_slope_59 (by decide) ?_
            refine lv_aload_n hC.x hC.b dX10_slope_66 rfl (lv_at hl 1 rfl) ?_
            refine rget hC hK hR (ct_model G _ _) rfl uin_X10 46 (by decide) TF_X10_186 rfl dX10_slope_67 ?_
            refine golp (runS (As := [.long (-(t_29 35 45)), .long (t_29 35 46)]) (rest := []) hC hK hR hl.1 (c_X10_common l hG s_28 t_29 (-(t_29 35 45)) (t_29 35 46) (by omega) (by omega)) (call_b hC.ts TC_X10_common TN_X10 TM_X10_222 hd_X10_common ⟨Nat.le_of_ble_eq_true rfl, Nat.le_of_ble_eq_true rfl⟩) TT_X10_common rfl rfl (Nat.le_of_ble_eq_true rfl) dX10_slope_70 ⟨Nat.le_of_ble_eq_true rfl, Nat.le_of_ble_eq_true rfl⟩) hS (fun v_42 H locs w_43 hR hS => ?_)
            have f_44 := w_43
            refine lv_lstore (lv' := [(4, .long v_42), (3, .int (0 : Int32)), (0, .ref (G.2.1 35)), (1, .int pl), (2, .int wa)]) hC.x hC.b dX10_slope_73 hl (by decide) rfl (fun ls hl => ?_)
            refine lv_iload_n hC.x hC.b dX10_slope_75 rfl (lv_at hl 4 rfl) ?_
            refine bz_ne (tgt := 89) (a := wa.toInt) (b := 0) hC.x hC.b rfl rfl dX10_slope_76 (by decide) (fun c_45 => ?_) (fun c_45 => ?_)
            · skip
              refine lv_aload_n hC.x hC.b dX10_slope_89 rfl (lv_at hl 2 rfl) ?_
              refine rget hC hK hR (ct_model G _ _) rfl uin_X10 46 (by decide) TF_X10_186 rfl dX10_slope_90 ?_
              refine lv_lload hC.x hC.b dX10_slope_93 (lv_at hl 0 rfl) ?_
              refine lv_ldiv hC.x hC.b dX10_slope_95 (ne0L rfl (by omega)) ?_
              refine lv_lstore (lv' := [(6, .long ((t_29 35 46) / v_42)), (4, .long v_42), (3, .int (0 : Int32)), (0, .ref (G.2.1 35)), (1, .int pl), (2, .int wa)]) hC.x hC.b dX10_slope_96 hl (by decide) rfl (fun ls hl => ?_)
              refine lv_lload hC.x hC.b dX10_slope_98 (lv_at hl 0 rfl) ?_
              refine lv_ldc2 hC.x hC.b hC.ow (hC.ts _ TK_X10_204) dX10_slope_100 ?_
              refine bl_le (tgt := 112) (a := ((t_29 35 46) / v_42).toInt) (b := 1000000000) hC.x hC.b rfl rfl dX10_slope_103 dX10_slope_104 (by decide) (fun c_46 => ?_) (fun c_46 => ?_)
              · skip
                refine lv_lload hC.x hC.b dX10_slope_112 (lv_at hl 0 rfl) ?_
                refine lv_ldc2 hC.x hC.b hC.ow (hC.ts _ TK_X10_207) dX10_slope_114 ?_
                refine bl_ge (tgt := 126) (a := ((t_29 35 46) / v_42).toInt) (b := (-1000000000)) hC.x hC.b rfl rfl dX10_slope_117 dX10_slope_118 (by decide) (fun c_47 => ?_) (fun c_47 => ?_)
                · skip
                  refine lv_lload hC.x hC.b dX10_slope_126 (lv_at hl 0 rfl) ?_
                  refine lv_l2i hC.x hC.b dX10_slope_128 rfl ?_
                  exact reti hC hK hR hS (by exact (MRel.tr MRel.rf f_30)) dX10_slope_129
                · skip
                  refine lv_ldc hC.x hC.b hC.ow (hC.ts _ TK_X10_209) dX10_slope_121 ?_
                  refine lv_goto (tgt := 129) hC.x hC.b dX10_slope_123 (by decide) ?_
                  exact reti hC hK hR hS (by exact (MRel.tr MRel.rf f_30)) dX10_slope_129
              · skip
                refine lv_ldc hC.x hC.b hC.ow (hC.ts _ TK_X10_206) dX10_slope_107 ?_
                refine lv_goto (tgt := 129) hC.x hC.b dX10_slope_109 (by decide) ?_
                exact reti hC hK hR hS (by exact (MRel.tr MRel.rf f_30)) dX10_slope_129
            · skip
              refine lv_aload_n hC.x hC.b dX10_slope_79 rfl (lv_at hl 2 rfl) ?_
              refine rget hC hK hR (ct_model G _ _) rfl uin_X10 45 (by decide) TF_X10_182 rfl dX10_slope_80 ?_
              refine lv_lload hC.x hC.b dX10_slope_83 (lv_at hl 0 rfl) ?_
              refine lv_ldiv hC.x hC.b dX10_slope_85 (ne0L rfl (by omega)) ?_
              refine lv_goto (tgt := 96) hC.x hC.b dX10_slope_86 (by decide) ?_
              refine lv_lstore (lv' := [(6, .long ((t_29 35 45) / v_42)), (4, .long v_42), (3, .int (0 : Int32)), (0, .ref (G.2.1 35)), (1, .int pl), (2, .int wa)]) hC.x hC.b dX10_slope_96 hl (by decide) rfl (fun ls hl => ?_)
              refine lv_lload hC.x hC.b dX10_slope_98 (lv_at hl 0 rfl) ?_
              refine lv_ldc2 hC.x hC.b hC.ow (hC.ts _ TK_X10_204) dX10_slope_100 ?_
              refine bl_le (tgt := 112) (a := ((t_29 35 45) / v_42).toInt) (b := 1000000000) hC.x hC.b rfl rfl dX10_slope_103 dX10_slope_104 (by decide) (fun c_48 => ?_) (fun c_48 => ?_)
              · skip
                refine lv_lload hC.x hC.b dX10_slope_112 (lv_at hl 0 rfl) ?_
                refine lv_ldc2 hC.x hC.b hC.ow (hC.ts _ TK_X10_207) dX10_slope_114 ?_
                refine bl_ge (tgt := 126) (a := ((t_29 35 45) / v_42).toInt) (b := (-1000000000)) hC.x hC.b rfl rfl dX10_slope_117 dX10_slope_118 (by decide) (fun c_49 => ?_) (fun c_49 => ?_)
                · skip
                  refine lv_lload hC.x hC.b dX10_slope_126 (lv_at hl 0 rfl) ?_
                  refine lv_l2i hC.x hC.b dX10_slope_128 rfl ?_
                  exact reti hC hK hR hS (by exact (MRel.tr MRel.rf f_30)) dX10_slope_129
                · skip
                  refine lv_ldc hC.x hC.b hC.ow (hC.ts _ TK_X10_209) dX10_slope_121 ?_
                  refine lv_goto (tgt := 129) hC.x hC.b dX10_slope_123 (by decide) ?_
                  exact reti hC hK hR hS (by exact (MRel.tr MRel.rf f_30)) dX10_slope_129
              · skip
                refine lv_ldc hC.x hC.b hC.ow (hC.ts _ TK_X10_206) dX10_slope_107 ?_
                refine lv_goto (tgt := 129) hC.x hC.b dX10_slope_109 (by decide) ?_
                exact reti hC hK hR hS (by exact (MRel.tr MRel.rf f_30)) dX10_slope_129
        · skip
          refine lv_ldc hC.x hC.b hC.ow (hC.ts _ TK_X10_203) dX10_slope_42 ?_
          exact reti hC hK hR hS (by exact (MRel.tr MRel.rf f_30)) dX10_slope_44
      · skip
        have av_50 : (0 : Int32).toInt = 0 := by decide
        refine gov (runV (As := [.int pl, .int (0 : Int32)]) (rest := []) hC hK hR hl.1 (c_X10_line l hG σ τ pl q (by first | rfl | (rw [show pl.toInt = pl.toInt from rfl]; done) | (rw [show pl.toInt = pl.toInt from rfl]; exact hp_q)) (0 : Int32) (by first | assumption | omega) (by omega) (by first | assumption | omega)) (call_b hC.ts TC_X10_line TN_X10 TM_X10_199 hd_X10_line ⟨Nat.le_of_ble_eq_true rfl, Nat.le_of_ble_eq_true rfl⟩) TI_X10_line TS_X10_line (ct_model G _ _) rfl rfl rfl (Nat.le_of_ble_eq_true rfl) dX10_slope_32 ⟨Nat.le_of_ble_eq_true rfl, Nat.le_of_ble_eq_true rfl⟩) hS (fun s_53 t_54 H locs w_52 hR hS => ?_)
        try dsimp only [po_X10_line] at w_52
        obtain ⟨f_55, f_56⟩ := w_52
        refine lv_aload_n hC.x hC.b dX10_slope_35 rfl (lv_at hl 1 rfl) ?_
        refine rget hC hK hR (ct_model G _ _) rfl uin_X10 44 (by decide) TF_X10_176 rfl dX10_slope_36 ?_
        refine bz_ne (tgt := 45) (a := (s_53 35 44).toInt) (b := 0) hC.x hC.b rfl rfl dX10_slope_39 (by decide) (fun c_57 => ?_) (fun c_57 => ?_)
        · skip
          refine lv_aload_n hC.x hC.b dX10_slope_45 rfl (lv_at hl 1 rfl) ?_
          refine rget hC hK hR (ct_model G _ _) rfl uin_X10 45 (by decide) TF_X10_182 rfl dX10_slope_46 ?_
          refine lv_lconst (v := 0) hC.x hC.b dX10_slope_49 (by decide) ?_
          refine bl_ge (tgt := 62) (a := (t_54 35 45).toInt) (b := 0) hC.x hC.b rfl rfl dX10_slope_50 dX10_slope_51 (by decide) (fun c_58 => ?_) (fun c_58 => ?_)
          · skip
            refine lv_aload_n hC.x hC.b dX10_slope_62 rfl (lv_at hl 1 rfl) ?_
            refine rget hC hK hR (ct_model G _ _) rfl uin_X10 45 (by decide) TF_X10_182 rfl dX10_slope_63 ?_
            refine lv_aload_n hC.x hC.b dX10_slope_66 rfl (lv_at hl 1 rfl) ?_
            refine rget hC hK hR (ct_model G _ _) rfl uin_X10 46 (by decide) TF_X10_186 rfl dX10_slope_67 ?_
            refine golp (runS (As := [.long (t_54 35 45), .long (t_54 35 46)]) (rest := []) hC hK hR hl.1 (c_X10_common l hG s_53 t_54 (t_54 35 45) (t_54 35 46) (by omega) (by omega)) (call_b hC.ts TC_X10_common TN_X10 TM_X10_222 hd_X10_common ⟨Nat.le_of_ble_eq_true rfl, Nat.le_of_ble_eq_true rfl⟩) TT_X10_common rfl rfl (Nat.le_of_ble_eq_true rfl) dX10_slope_70 ⟨Nat.le_of_ble_eq_true rfl, Nat.le_of_ble_eq_true rfl⟩) hS (fun v_59 H locs w_60 hR hS => ?_)
            have f_61 := w_60
            refine lv_lstore (lv' := [(4, .long v_59), (3, .int (0 : Int32)), (0, .ref (G.2.1 35)), (1, .int pl), (2, .int wa)]) hC.x hC.b dX10_slope_73 hl (by decide) rfl (fun ls hl => ?_)
            refine lv_iload_n hC.x hC.b dX10_slope_75 rfl (lv_at hl 4 rfl) ?_
            refine bz_ne (tgt := 89) (a := wa.toInt) (b := 0) hC.x hC.b rfl rfl dX10_slope_76 (by decide) (fun c_62 => ?_) (fun c_62 => ?_)
            · skip
              refine lv_aload_n hC.x hC.b dX10_slope_89 rfl (lv_at hl 2 rfl) ?_
              refine rget hC hK hR (ct_model G _ _) rfl uin_X10 46 (by decide) TF_X10_186 rfl dX10_slope_90 ?_
              refine lv_lload hC.x hC.b dX10_slope_93 (lv_at hl 0 rfl) ?_
              refine lv_ldiv hC.x hC.b dX10_slope_95 (ne0L rfl (by omega)) ?_
              refine lv_lstore (lv' := [(6, .long ((t_54 35 46) / v_59)), (4, .long v_59), (3, .int (0 : Int32)), (0, .ref (G.2.1 35)), (1, .int pl), (2, .int wa)]) hC.x hC.b dX10_slope_96 hl (by decide) rfl (fun ls hl => ?_)
              refine lv_lload hC.x hC.b dX10_slope_98 (lv_at hl 0 rfl) ?_
              refine lv_ldc2 hC.x hC.b hC.ow (hC.ts _ TK_X10_204) dX10_slope_100 ?_
              refine bl_le (tgt := 112) (a := ((t_54 35 46) / v_59).toInt) (b := 1000000000) hC.x hC.b rfl rfl dX10_slope_103 dX10_slope_104 (by decide) (fun c_63 => ?_) (fun c_63 => ?_)
              · skip
                refine lv_lload hC.x hC.b dX10_slope_112 (lv_at hl 0 rfl) ?_
                refine lv_ldc2 hC.x hC.b hC.ow (hC.ts _ TK_X10_207) dX10_slope_114 ?_
                refine bl_ge (tgt := 126) (a := ((t_54 35 46) / v_59).toInt) (b := (-1000000000)) hC.x hC.b rfl rfl dX10_slope_117 dX10_slope_118 (by decide) (fun c_64 => ?_) (fun c_64 => ?_)
                · skip
                  refine lv_lload hC.x hC.b dX10_slope_126 (lv_at hl 0 rfl) ?_
                  refine lv_l2i hC.x hC.b dX10_slope_128 rfl ?_
                  exact reti hC hK hR hS (by exact (MRel.tr MRel.rf f_55)) dX10_slope_129
                · skip
                  refine lv_ldc hC.x hC.b hC.ow (hC.ts _ TK_X10_209) dX10_slope_121 ?_
                  refine lv_goto (tgt := 129) hC.x hC.b dX10_slope_123 (by decide) ?_
                  exact reti hC hK hR hS (by exact (MRel.tr MRel.rf f_55)) dX10_slope_129
              · skip
                refine lv_ldc hC.x hC.b hC.ow (hC.ts _ TK_X10_206) dX10_slope_107 ?_
                refine lv_goto (tgt := 129) hC.x hC.b dX10_slope_109 (by decide) ?_
                exact reti hC hK hR hS (by exact (MRel.tr MRel.rf f_55)) dX10_slope_129
            · skip
              refine lv_aload_n hC.x hC.b dX10_slope_79 rfl (lv_at hl 2 rfl) ?_
              refine rget hC hK hR (ct_model G _ _) rfl uin_X10 45 (by decide) TF_X10_182 rfl dX10_slope_80 ?_
              refine lv_lload hC.x hC.b dX10_slope_83 (lv_at hl 0 rfl) ?_
              refine lv_ldiv hC.x hC.b dX10_slope_85 (ne0L rfl (by omega)) ?_
              refine lv_goto (tgt := 96) hC.x hC.b dX10_slope_86 (by decide) ?_
              refine lv_lstore (lv' := [(6, .long ((t_54 35 45) / v_59)), (4, .long v_59), (3, .int (0 : Int32)), (0, .ref (G.2.1 35)), (1, .int pl), (2, .int wa)]) hC.x hC.b dX10_slope_96 hl (by decide) rfl (fun ls hl => ?_)
              refine lv_lload hC.x hC.b dX10_slope_98 (lv_at hl 0 rfl) ?_
              refine lv_ldc2 hC.x hC.b hC.ow (hC.ts _ TK_X10_204) dX10_slope_100 ?_
              refine bl_le (tgt := 112) (a := ((t_54 35 45) / v_59).toInt) (b := 1000000000) hC.x hC.b rfl rfl dX10_slope_103 dX10_slope_104 (by decide) (fun c_65 => ?_) (fun c_65 => ?_)
              · skip
                refine lv_lload hC.x hC.b dX10_slope_112 (lv_at hl 0 rfl) ?_
                refine lv_ldc2 hC.x hC.b hC.ow (hC.ts _ TK_X10_207) dX10_slope_114 ?_
                refine bl_ge (tgt := 126) (a := ((t_54 35 45) / v_59).toInt) (b := (-1000000000)) hC.x hC.b rfl rfl dX10_slope_117 dX10_slope_118 (by decide) (fun c_66 => ?_) (fun c_66 => ?_)
                · skip
                  refine lv_lload hC.x hC.b dX10_slope_126 (lv_at hl 0 rfl) ?_
                  refine lv_l2i hC.x hC.b dX10_slope_128 rfl ?_
                  exact reti hC hK hR hS (by exact (MRel.tr MRel.rf f_55)) dX10_slope_129
                · skip
                  refine lv_ldc hC.x hC.b hC.ow (hC.ts _ TK_X10_209) dX10_slope_121 ?_
                  refine lv_goto (tgt := 129) hC.x hC.b dX10_slope_123 (by decide) ?_
                  exact reti hC hK hR hS (by exact (MRel.tr MRel.rf f_55)) dX10_slope_129
              · skip
                refine lv_ldc hC.x hC.b hC.ow (hC.ts _ TK_X10_206) dX10_slope_107 ?_
                refine lv_goto (tgt := 129) hC.x hC.b dX10_slope_109 (by decide) ?_
                exact reti hC hK hR hS (by exact (MRel.tr MRel.rf f_55)) dX10_slope_129
          · skip
            refine lv_aload_n hC.x hC.b dX10_slope_54 rfl (lv_at hl 1 rfl) ?_
            refine rget hC hK hR (ct_model G _ _) rfl uin_X10 45 (by decide) TF_X10_182 rfl dX10_slope_55 ?_
            refine lv_lneg hC.x hC.b dX10_slope_58 ?_
            refine lv_goto (tgt := 66) hC.x hC.b dX10_slope_59 (by decide) ?_
            refine lv_aload_n hC.x hC.b dX10_slope_66 rfl (lv_at hl 1 rfl) ?_
            refine rget hC hK hR (ct_model G _ _) rfl uin_X10 46 (by decide) TF_X10_186 rfl dX10_slope_67 ?_
            refine golp (runS (As := [.long (-(t_54 35 45)), .long (t_54 35 46)]) (rest := []) hC hK hR hl.1 (c_X10_common l hG s_53 t_54 (-(t_54 35 45)) (t_54 35 46) (by omega) (by omega)) (call_b hC.ts TC_X10_common TN_X10 TM_X10_222 hd_X10_common ⟨Nat.le_of_ble_eq_true rfl, Nat.le_of_ble_eq_true rfl⟩) TT_X10_common rfl rfl (Nat.le_of_ble_eq_true rfl) dX10_slope_70 ⟨Nat.le_of_ble_eq_true rfl, Nat.le_of_ble_eq_true rfl⟩) hS (fun v_67 H locs w_68 hR hS => ?_)
            have f_69 := w_68
            refine lv_lstore (lv' := [(4, .long v_67), (3, .int (0 : Int32)), (0, .ref (G.2.1 35)), (1, .int pl), (2, .int wa)]) hC.x hC.b dX10_slope_73 hl (by decide) rfl (fun ls hl => ?_)
            refine lv_iload_n hC.x hC.b dX10_slope_75 rfl (lv_at hl 4 rfl) ?_
            refine bz_ne (tgt := 89) (a := wa.toInt) (b := 0) hC.x hC.b rfl rfl dX10_slope_76 (by decide) (fun c_70 => ?_) (fun c_70 => ?_)
            · skip
              refine lv_aload_n hC.x hC.b dX10_slope_89 rfl (lv_at hl 2 rfl) ?_
              refine rget hC hK hR (ct_model G _ _) rfl uin_X10 46 (by decide) TF_X10_186 rfl dX10_slope_90 ?_
              refine lv_lload hC.x hC.b dX10_slope_93 (lv_at hl 0 rfl) ?_
              refine lv_ldiv hC.x hC.b dX10_slope_95 (ne0L rfl (by omega)) ?_
              refine lv_lstore (lv' := [(6, .long ((t_54 35 46) / v_67)), (4, .long v_67), (3, .int (0 : Int32)), (0, .ref (G.2.1 35)), (1, .int pl), (2, .int wa)]) hC.x hC.b dX10_slope_96 hl (by decide) rfl (fun ls hl => ?_)
              refine lv_lload hC.x hC.b dX10_slope_98 (lv_at hl 0 rfl) ?_
              refine lv_ldc2 hC.x hC.b hC.ow (hC.ts _ TK_X10_204) dX10_slope_100 ?_
              refine bl_le (tgt := 112) (a := ((t_54 35 46) / v_67).toInt) (b := 1000000000) hC.x hC.b rfl rfl dX10_slope_103 dX10_slope_104 (by decide) (fun c_71 => ?_) (fun c_71 => ?_)
              · skip
                refine lv_lload hC.x hC.b dX10_slope_112 (lv_at hl 0 rfl) ?_
                refine lv_ldc2 hC.x hC.b hC.ow (hC.ts _ TK_X10_207) dX10_slope_114 ?_
                refine bl_ge (tgt := 126) (a := ((t_54 35 46) / v_67).toInt) (b := (-1000000000)) hC.x hC.b rfl rfl dX10_slope_117 dX10_slope_118 (by decide) (fun c_72 => ?_) (fun c_72 => ?_)
                · skip
                  refine lv_lload hC.x hC.b dX10_slope_126 (lv_at hl 0 rfl) ?_
                  refine lv_l2i hC.x hC.b dX10_slope_128 rfl ?_
                  exact reti hC hK hR hS (by exact (MRel.tr MRel.rf f_55)) dX10_slope_129
                · skip
                  refine lv_ldc hC.x hC.b hC.ow (hC.ts _ TK_X10_209) dX10_slope_121 ?_
                  refine lv_goto (tgt := 129) hC.x hC.b dX10_slope_123 (by decide) ?_
                  exact reti hC hK hR hS (by exact (MRel.tr MRel.rf f_55)) dX10_slope_129
              · skip
                refine lv_ldc hC.x hC.b hC.ow (hC.ts _ TK_X10_206) dX10_slope_107 ?_
                refine lv_goto (tgt := 129) hC.x hC.b dX10_slope_109 (by decide) ?_
                exact reti hC hK hR hS (by exact (MRel.tr MRel.rf f_55)) dX10_slope_129
            · skip
              refine lv_aload_n hC.x hC.b dX10_slope_79 rfl (lv_at hl 2 rfl) ?_
              refine rget hC hK hR (ct_model G _ _) rfl uin_X10 45 (by decide) TF_X10_182 rfl dX10_slope_80 ?_
              refine lv_lload hC.x hC.b dX10_slope_83 (lv_at hl 0 rfl) ?_
              refine lv_ldiv hC.x hC.b dX10_slope_85 (ne0L rfl (by omega)) ?_
              refine lv_goto (tgt := 96) hC.x hC.b dX10_slope_86 (by decide) ?_
              refine lv_lstore (lv' := [(6, .long ((t_54 35 45) / v_67)), (4, .long v_67), (3, .int (0 : Int32)), (0, .ref (G.2.1 35)), (1, .int pl), (2, .int wa)]) hC.x hC.b dX10_slope_96 hl (by decide) rfl (fun ls hl => ?_)
              refine lv_lload hC.x hC.b dX10_slope_98 (lv_at hl 0 rfl) ?_
              refine lv_ldc2 hC.x hC.b hC.ow (hC.ts _ TK_X10_204) dX10_slope_100 ?_
              refine bl_le (tgt := 112) (a := ((t_54 35 45) / v_67).toInt) (b := 1000000000) hC.x hC.b rfl rfl dX10_slope_103 dX10_slope_104 (by decide) (fun c_73 => ?_) (fun c_73 => ?_)
              · skip
                refine lv_lload hC.x hC.b dX10_slope_112 (lv_at hl 0 rfl) ?_
                refine lv_ldc2 hC.x hC.b hC.ow (hC.ts _ TK_X10_207) dX10_slope_114 ?_
                refine bl_ge (tgt := 126) (a := ((t_54 35 45) / v_67).toInt) (b := (-1000000000)) hC.x hC.b rfl rfl dX10_slope_117 dX10_slope_118 (by decide) (fun c_74 => ?_) (fun c_74 => ?_)
                · skip
                  refine lv_lload hC.x hC.b dX10_slope_126 (lv_at hl 0 rfl) ?_
                  refine lv_l2i hC.x hC.b dX10_slope_128 rfl ?_
                  exact reti hC hK hR hS (by exact (MRel.tr MRel.rf f_55)) dX10_slope_129
                · skip
                  refine lv_ldc hC.x hC.b hC.ow (hC.ts _ TK_X10_209) dX10_slope_121 ?_
                  refine lv_goto (tgt := 129) hC.x hC.b dX10_slope_123 (by decide) ?_
                  exact reti hC hK hR hS (by exact (MRel.tr MRel.rf f_55)) dX10_slope_129
              · skip
                refine lv_ldc hC.x hC.b hC.ow (hC.ts _ TK_X10_206) dX10_slope_107 ?_
                refine lv_goto (tgt := 129) hC.x hC.b dX10_slope_109 (by decide) ?_
                exact reti hC hK hR hS (by exact (MRel.tr MRel.rf f_55)) dX10_slope_129
        · skip
          refine lv_ldc hC.x hC.b hC.ow (hC.ts _ TK_X10_203) dX10_slope_42 ?_
          exact reti hC hK hR hS (by exact (MRel.tr MRel.rf f_55)) dX10_slope_44
    · skip
      refine bz_ne (tgt := 25) (a := 0) (b := 0) hC.x hC.b rfl rfl dX10_slope_20 (by decide) (fun c_75 => absurd c_75 (by decide)) (fun _ => ?_)
      refine lv_iconst (v := (-1)) hC.x hC.b dX10_slope_23 (by decide) ?_
      exact reti hC hK hR hS (by exact MRel.rf) dX10_slope_24
  · skip
    refine lv_istore_n (lv' := [(3, .int (-2 : Int32)), (0, .ref (G.2.1 35)), (1, .int pl), (2, .int wa)]) hC.x hC.b dX10_slope_7 rfl hl (by decide) rfl (fun ls hl => ?_)
    refine lv_iload_n hC.x hC.b dX10_slope_8 rfl (lv_at hl 0 rfl) ?_
    refine bz_eq (tgt := 14) (a := (-2)) (b := 0) hC.x hC.b rfl rfl dX10_slope_9 (by decide) (fun c_76 => absurd c_76 (by decide)) (fun _ => ?_)
    refine lv_iload_n hC.x hC.b dX10_slope_12 rfl (lv_at hl 0 rfl) ?_
    exact reti hC hK hR hS (by exact MRel.rf) dX10_slope_13
