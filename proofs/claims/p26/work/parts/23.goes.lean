abbrev po_X10_goes (σ : SI) (τ : SL) (xa : Int32) (xq : Nat) (ya : Int32) (yq : Nat) (hr : Int32) (hq : Nat) : Int32 → SI × SL → Prop := fun v u => ((v = (1)) ∧ (MRel (fun k => k = 68 ∨ k = 69) (fun j => j = 41 ∨ j = 43) σ u.1) ∧ (0 ≤ (u.1 35 41).toInt ∧ (u.1 35 41).toInt ≤ 23)) ∨ ((v = (0)) ∧ (MRel (fun k => k = 68 ∨ k = 69) (fun j => j = 41 ∨ j = 43) σ u.1) ∧ (0 ≤ (u.1 35 41).toInt ∧ (u.1 35 41).toInt ≤ 23))
set_option maxRecDepth 100000 in
set_option maxHeartbeats 4000000 in
theorem c_X10_goes (l : Launch) {G : Gx} {A : Nat → Prop} (hG : GOk G A) (σ : SI) (τ : SL) (xa : Int32) (xq : Nat) (hp_xq : xa.toInt.toNat = xq) (ya : Int32) (yq : Nat) (hp_yq : ya.toInt.toNat = yq) (hr : Int32) (hq : Nat) (hp_hq : hr.toInt.toNat = hq) (hnw : 0 ≤ (σ 35 29).toInt ∧ (σ 35 29).toInt ≤ 200) (hxa : 0 ≤ xa.toInt ∧ xa.toInt < 24) (hya : 0 ≤ ya.toInt ∧ ya.toInt < 24) (hln : LnM σ) : MI l G A 2 yX10_goes cX10_goes 9 (some .boolean) [.ref (G.2.1 35), .int xa, .int ya, .int hr] (σ, τ) (po_X10_goes σ τ xa xq ya yq hr hq) := by
  refine met_of (own := RX10) (by decide +kernel) rfl [(0, .ref (G.2.1 35)), (1, .int xa), (2, .int ya), (3, .int hr)] rfl (Nat.le_of_ble_eq_true rfl) ?_
  intro p e s m args below meth c ls hC hK hR hl
  have hS : va_S A s.heap s.heap [] := va_S.rf
  refine lv_iload_n hC.x hC.b dX10_goes_0 rfl (lv_at hl 1 rfl) ?_
  refine lv_iload_n hC.x hC.b dX10_goes_1 rfl (lv_at hl 2 rfl) ?_
  refine bi_ge (tgt := 9) (a := xa.toInt) (b := ya.toInt) hC.x hC.b rfl rfl dX10_goes_2 (by decide) (fun c_1 => ?_) (fun c_1 => ?_)
  · skip
    refine lv_iload_n hC.x hC.b dX10_goes_9 rfl (lv_at hl 2 rfl) ?_
    refine lv_istore (lv' := [(4, .int ya), (0, .ref (G.2.1 35)), (1, .int xa), (2, .int ya), (3, .int hr)]) hC.x hC.b dX10_goes_10 hl (by decide) rfl (fun ls hl => ?_)
    refine lv_iload_n hC.x hC.b dX10_goes_12 rfl (lv_at hl 2 rfl) ?_
    refine lv_iload_n hC.x hC.b dX10_goes_13 rfl (lv_at hl 3 rfl) ?_
    refine bi_ge (tgt := 21) (a := xa.toInt) (b := ya.toInt) hC.x hC.b rfl rfl dX10_goes_14 (by decide) (fun c_2 => ?_) (fun c_2 => ?_)
    · skip
      refine lv_iload_n hC.x hC.b dX10_goes_21 rfl (lv_at hl 2 rfl) ?_
      refine lv_istore (lv' := [(5, .int xa), (4, .int ya), (0, .ref (G.2.1 35)), (1, .int xa), (2, .int ya), (3, .int hr)]) hC.x hC.b dX10_goes_22 hl (by decide) rfl (fun ls hl => ?_)
      have L_24 : ∀ (F : Nat) (a4 : Int32) (b5 : Int32), 0 < F → (0 ≤ a4.toInt ∧ a4.toInt < 24) → (0 ≤ b5.toInt ∧ b5.toInt < 24) → ∀ (H : Heap) (locs : List Loc) (ls : Array Slot), RepH G σ τ H → va_S A s.heap H locs → lv_has ls 9 [(0, .ref (G.2.1 35)), (1, .int xa), (2, .int ya), (3, .int hr), (4, .int a4), (5, .int b5)] → W p l e (rmD 2) s m args below meth c H locs 0 0 (MQ below (va_Qi (po_X10_goes σ τ xa xq ya yq hr hq) (BU G) A) args s 0 0 A) (F0 m 24 ls []) := by
        intro F
        induction F with
        | zero => intro a4 b5 hm; exact absurd hm (Nat.not_lt_zero _)
        | succ F ih_24 =>
          intro a4 b5 hm_24 hi0_24 hi1_24 H locs ls hR hS hl
          refine lv_iconst (v := 0) hC.x hC.b dX10_goes_24 (by decide) ?_
          refine lv_istore (lv' := [(6, .int (0 : Int32)), (0, .ref (G.2.1 35)), (1, .int xa), (2, .int ya), (3, .int hr), (4, .int a4), (5, .int b5)]) hC.x hC.b dX10_goes_25 hl (by decide) rfl (fun ls hl => ?_)
          have L_27 : ∀ (F : Nat) (n : Nat) (s1 : SI), (24 - n) < F → (n ≤ 24) → (∀ k, k < n → (s1 68 k).toInt = 99) → (MRel (fun k => k = 68 ∨ k = 69) (fun j => j = 41 ∨ j = 43) σ s1) → ∀ (H : Heap) (locs : List Loc) (ls : Array Slot), RepH G s1 τ H → va_S A s.heap H locs → lv_has ls 9 [(0, .ref (G.2.1 35)), (1, .int xa), (2, .int ya), (3, .int hr), (4, .int a4), (5, .int b5), (6, .int (nI n))] → W p l e (rmD 2) s m args below meth c H locs 0 0 (MQ below (va_Qi (po_X10_goes σ τ xa xq ya yq hr hq) (BU G) A) args s 0 0 A) (F0 m 27 ls []) := by
            intro F
            induction F with
            | zero => intro n s1 hm; exact absurd hm (Nat.not_lt_zero _)
            | succ F ih_27 =>
              intro n s1 hm_27 hi0_27 hi1_27 hi2_27 H locs ls hR hS hl
              have hnI := nI_T n (by omega)
              refine lv_iload hC.x hC.b dX10_goes_27 (lv_at hl 6 rfl) ?_
              refine lv_bipush (v := 24) hC.x hC.b dX10_goes_29 (by decide) ?_
              refine bi_ge (tgt := 49) (a := (n : Int)) (b := 24) hC.x hC.b (nI_T n (by omega)) rfl dX10_goes_31 (by decide) (fun c_3 => ?_) (fun c_3 => ?_)
              · skip
                refine lv_aload_n hC.x hC.b dX10_goes_49 rfl (lv_at hl 0 rfl) ?_
                refine rget hC hK hR (ct_model G _ _) rfl uin_X10 38 (by decide) TF_X10_117 rfl dX10_goes_50 ?_
                refine lv_iload hC.x hC.b dX10_goes_53 (lv_at hl 5 rfl) ?_
                refine lv_iconst (v := 0) hC.x hC.b dX10_goes_55 (by decide) ?_
                refine ast hC hK hG hR hS (fun _ => ct_m_far G _ _) rfl (by omega) (by omega) rfl dX10_goes_56 (fun s_4 es_5 H locs hR hS => ?_)
                refine lv_iconst (v := 0) hC.x hC.b dX10_goes_57 (by decide) ?_
                refine lv_istore (lv' := [(6, .int (0 : Int32)), (0, .ref (G.2.1 35)), (1, .int xa), (2, .int ya), (3, .int hr), (4, .int a4), (5, .int b5)]) hC.x hC.b dX10_goes_58 hl (by decide) rfl (fun ls hl => ?_)
                have L_60 : ∀ (F : Nat) (n6 : Nat) (s2 : SI), (24 - n6) < F → (n6 ≤ 24) → (BFI (UM σ hr hq) (xM σ) (yM σ) b5.toInt.toNat (fM s2)) → (BFL (UM σ hr hq) (xM σ) (yM σ) (n6 : Int) 0 (fM s2)) → (MRel (fun k => k = 68 ∨ k = 69) (fun j => j = 41 ∨ j = 43) σ s2) → ∀ (H : Heap) (locs : List Loc) (ls : Array Slot), RepH G s2 τ H → va_S A s.heap H locs → lv_has ls 9 [(0, .ref (G.2.1 35)), (1, .int xa), (2, .int ya), (3, .int hr), (4, .int a4), (5, .int b5), (6, .int (nI n6))] → W p l e (rmD 2) s m args below meth c H locs 0 0 (MQ below (va_Qi (po_X10_goes σ τ xa xq ya yq hr hq) (BU G) A) args s 0 0 A) (F0 m 60 ls []) := by
                  intro F
                  induction F with
                  | zero => intro n6 s2 hm; exact absurd hm (Nat.not_lt_zero _)
                  | succ F ih_60 =>
                    intro n6 s2 hm_60 hi0_60 hi1_60 hi2_60 hi3_60 H locs ls hR hS hl
                    have hnI6 := nI_T n6 (by omega)
                    refine lv_iload hC.x hC.b dX10_goes_60 (lv_at hl 6 rfl) ?_
                    refine lv_bipush (v := 24) hC.x hC.b dX10_goes_62 (by decide) ?_
                    refine bi_ge (tgt := 223) (a := (n6 : Int)) (b := 24) hC.x hC.b (nI_T n6 (by omega)) rfl dX10_goes_64 (by decide) (fun c_6 => ?_) (fun c_6 => ?_)
                    · skip
                      refine lv_aload_n hC.x hC.b dX10_goes_223 rfl (lv_at hl 0 rfl) ?_
                      refine lv_iconst (v := 0) hC.x hC.b dX10_goes_224 (by decide) ?_
                      refine rputi hC hK hG hR hS (ct_model G _ _) rfl uin_X10 tyX10 tyX10_ok nmX10 41 (by decide) TF_X10_155 rfl (Or.inl rfl) (Nat.le_of_ble_eq_true rfl) rfl (ct_model G _ _) dX10_goes_225 (fun s_8 es_7 H locs hR hS => ?_)
                      refine lv_aload_n hC.x hC.b dX10_goes_228 rfl (lv_at hl 0 rfl) ?_
                      refine lv_iconst (v := 0) hC.x hC.b dX10_goes_229 (by decide) ?_
                      refine rputi hC hK hG hR hS (ct_model G _ _) rfl uin_X10 tyX10 tyX10_ok nmX10 43 (by decide) TF_X10_158 rfl (Or.inl rfl) (Nat.le_of_ble_eq_true rfl) rfl (ct_model G _ _) dX10_goes_230 (fun s_10 es_9 H locs hR hS => ?_)
                      refine lv_aload_n hC.x hC.b dX10_goes_233 rfl (lv_at hl 0 rfl) ?_
                      refine rget hC hK hR (ct_model G _ _) rfl uin_X10 38 (by decide) TF_X10_117 rfl dX10_goes_234 ?_
                      refine lv_iload hC.x hC.b dX10_goes_237 (lv_at hl 4 rfl) ?_
                      refine ald hC hK hR (ct_m_far G _ _) rfl (by omega) (by omega) rfl dX10_goes_239 ?_
                      rw [show s_10 68 a4.toInt.toNat = (s2 68 a4.toInt.toNat) from (Eq.trans (show s_10 68 a4.toInt.toNat = s_8 68 a4.toInt.toNat from (by rw [es_9]; exact up2_o (by omega))) (show s_8 68 a4.toInt.toNat = s2 68 a4.toInt.toNat from (by rw [es_7]; exact up2_o (by omega))))]
                      refine lv_bipush (v := 99) hC.x hC.b dX10_goes_240 (by decide) ?_
                      refine bi_lt (tgt := 247) (a := (s2 68 a4.toInt.toNat).toInt) (b := 99) hC.x hC.b rfl rfl dX10_goes_242 (by decide) (fun c_11 => ?_) (fun c_11 => ?_)
                      · skip
                        have rd_12 : (s_10 35 41).toInt = 0 := (congrArg Int32.toInt (Eq.trans (show s_10 35 41 = s_8 35 41 from (by rw [es_9]; exact up2_n (by omega))) (show s_8 35 41 = (0 : Int32) from (by rw [es_7]; exact up2_s)))).trans (by decide)
                        have rd_13 : (s_10 68 a4.toInt.toNat).toInt = (s2 68 a4.toInt.toNat).toInt := congrArg Int32.toInt (Eq.trans (show s_10 68 a4.toInt.toNat = s_8 68 a4.toInt.toNat from (by rw [es_9]; exact up2_o (by omega))) (show s_8 68 a4.toInt.toNat = s2 68 a4.toInt.toNat from (by rw [es_7]; exact up2_o (by omega))))
                        have e24 : (n6 : Int) = 24 := by omega
                        have hL24 : BFL (UM σ hr hq) (xM σ) (yM σ) 24 0 (fM s2) := e24 ▸ hi2_60
                        have h23 : (s2 68 a4.toInt.toNat).toInt ≤ 23 := bf_23 hln.xy hi1_60 hL24 (by omega) (by show (s2 68 a4.toInt.toNat).toInt < 99; omega)
                        refine lv_iload hC.x hC.b dX10_goes_247 (lv_at hl 4 rfl) ?_
                        refine lv_istore (lv' := [(6, .int a4), (0, .ref (G.2.1 35)), (1, .int xa), (2, .int ya), (3, .int hr), (4, .int a4), (5, .int b5)]) hC.x hC.b dX10_goes_249 hl (by decide) rfl (fun ls hl => ?_)
                        have L_251 : ∀ (F : Nat) (h6 : Int32) (s4 : SI), ((s4 68 h6.toInt.toNat).toInt.toNat) < F → (0 ≤ h6.toInt ∧ h6.toInt < 24) → (BFI (UM σ hr hq) (xM σ) (yM σ) b5.toInt.toNat (fM s4)) → (BFL (UM σ hr hq) (xM σ) (yM σ) 24 0 (fM s4)) → (0 ≤ (s4 35 41).toInt) → ((s4 35 41).toInt + (s4 68 h6.toInt.toNat).toInt ≤ 23) → (MRel (fun k => k = 68 ∨ k = 69) (fun j => j = 41 ∨ j = 43) σ s4) → ∀ (H : Heap) (locs : List Loc) (ls : Array Slot), RepH G s4 τ H → va_S A s.heap H locs → lv_has ls 9 [(0, .ref (G.2.1 35)), (1, .int xa), (2, .int ya), (3, .int hr), (5, .int b5), (6, .int h6)] → W p l e (rmD 2) s m args below meth c H locs 0 0 (MQ below (va_Qi (po_X10_goes σ τ xa xq ya yq hr hq) (BU G) A) args s 0 0 A) (F0 m 251 ls []) := by
                          intro F
                          induction F with
                          | zero => intro h6 s4 hm; exact absurd hm (Nat.not_lt_zero _)
                          | succ F ih_251 =>
                            intro h6 s4 hm_251 hi0_251 hi1_251 hi2_251 hi3_251 hi4_251 hi5_251 H locs ls hR hS hl
                            refine lv_iload hC.x hC.b dX10_goes_251 (lv_at hl 5 rfl) ?_
                            refine lv_iload hC.x hC.b dX10_goes_253 (lv_at hl 4 rfl) ?_
                            refine bi_eq (tgt := 398) (a := h6.toInt) (b := b5.toInt) hC.x hC.b rfl rfl dX10_goes_255 (by decide) (fun c_14 => ?_) (fun c_14 => ?_)
                            · skip
                              have hb6 : 0 ≤ (s4 68 h6.toInt.toNat).toInt ∧ (s4 68 h6.toInt.toNat).toInt ≤ 99 := hi1_251.1 _ (by omega)
                              refine lv_iload_n hC.x hC.b dX10_goes_398 rfl (lv_at hl 1 rfl) ?_
                              refine lv_iload_n hC.x hC.b dX10_goes_399 rfl (lv_at hl 2 rfl) ?_
                              refine bi_gt (tgt := 405) (a := xa.toInt) (b := ya.toInt) hC.x hC.b rfl rfl dX10_goes_400 (by decide) (fun c_15 => ?_) (fun c_15 => ?_)
                              · skip
                                refine lv_aload_n hC.x hC.b dX10_goes_405 rfl (lv_at hl 0 rfl) ?_
                                refine lv_aload_n hC.x hC.b dX10_goes_406 rfl (lv_at hl 0 rfl) ?_
                                refine rget hC hK hR (ct_model G _ _) rfl uin_X10 43 (by decide) TF_X10_158 rfl dX10_goes_407 ?_
                                refine lv_ineg hC.x hC.b dX10_goes_410 ?_
                                refine rputi hC hK hG hR hS (ct_model G _ _) rfl uin_X10 tyX10 tyX10_ok nmX10 43 (by decide) TF_X10_158 rfl (Or.inl rfl) (Nat.le_of_ble_eq_true rfl) rfl (ct_model G _ _) dX10_goes_411 (fun s_17 es_16 H locs hR hS => ?_)
                                have rd_18 : (s_17 35 41).toInt = (s4 35 41).toInt := congrArg Int32.toInt (show s_17 35 41 = s4 35 41 from (by rw [es_16]; exact up2_n (by omega)))
                                refine lv_iconst (v := 0) hC.x hC.b dX10_goes_414 (by decide) ?_
                                refine lv_istore (lv' := [(7, .int (0 : Int32)), (0, .ref (G.2.1 35)), (1, .int xa), (2, .int ya), (3, .int hr), (5, .int b5), (6, .int h6)]) hC.x hC.b dX10_goes_415 hl (by decide) rfl (fun ls hl => ?_)
                                have L_417 : ∀ (F : Nat) (n7 : Nat) (s5 : SI), (24 - n7) < F → (n7 ≤ 24) → (0 ≤ (s5 35 41).toInt ∧ (s5 35 41).toInt ≤ 23) → (MRel (fun k => k = 68 ∨ k = 69) (fun j => j = 41 ∨ j = 43) σ s5) → ∀ (H : Heap) (locs : List Loc) (ls : Array Slot), RepH G s5 τ H → va_S A s.heap H locs → lv_has ls 9 [(0, .ref (G.2.1 35)), (7, .int (nI n7))] → W p l e (rmD 2) s m args below meth c H locs 0 0 (MQ below (va_Qi (po_X10_goes σ τ xa xq ya yq hr hq) (BU G) A) args s 0 0 A) (F0 m 417 ls []) := by
                                  intro F
                                  induction F with
                                  | zero => intro n7 s5 hm; exact absurd hm (Nat.not_lt_zero _)
                                  | succ F ih_417 =>
                                    intro n7 s5 hm_417 hi0_417 hi1_417 hi2_417 H locs ls hR hS hl
                                    have hnI := nI_T n7 (by omega)
                                    refine lv_iconst (v := 2) hC.x hC.b dX10_goes_417 (by decide) ?_
                                    refine lv_iload hC.x hC.b dX10_goes_418 (lv_at hl 1 rfl) ?_
                                    refine lv_imul hC.x hC.b dX10_goes_420 ?_
                                    have pr_19 : ((2 : Int32) * (nI n7)).toInt = (2 * (n7 : Int)) := mulI rfl (nI_T n7 (by omega)) (by omega) (by omega)
                                    refine lv_aload_n hC.x hC.b dX10_goes_421 rfl (lv_at hl 0 rfl) ?_
                                    refine rget hC hK hR (ct_model G _ _) rfl uin_X10 41 (by decide) TF_X10_155 rfl dX10_goes_422 ?_
                                    refine lv_iconst (v := 1) hC.x hC.b dX10_goes_425 (by decide) ?_
                                    refine lv_isub hC.x hC.b dX10_goes_426 ?_
                                    have pr_20 : ((s5 35 41) - (1 : Int32)).toInt = ((s5 35 41).toInt - 1) := subI rfl rfl (by omega) (by omega)
                                    refine bi_ge (tgt := 482) (a := (2 * (n7 : Int))) (b := ((s5 35 41).toInt - 1)) hC.x hC.b pr_19 pr_20 dX10_goes_427 (by decide) (fun c_21 => ?_) (fun c_21 => ?_)
                                    · skip
                                      refine lv_iconst (v := 1) hC.x hC.b dX10_goes_482 (by decide) ?_
                                      exact retz hC hK hR hS (Or.inr rfl) (by first | exact Or.inl (⟨by first | rfl | omega, by exact hi2_417, by first | omega | (dsimp only; omega)⟩) | exact False.elim (by omega)) dX10_goes_483
                                    · skip
                                      refine lv_aload_n hC.x hC.b dX10_goes_430 rfl (lv_at hl 0 rfl) ?_
                                      refine rget hC hK hR (ct_model G _ _) rfl uin_X10 39 (by decide) TF_X10_120 rfl dX10_goes_431 ?_
                                      refine lv_iload hC.x hC.b dX10_goes_434 (lv_at hl 1 rfl) ?_
                                      refine ald hC hK hR (ct_m_going G _ _) (nI_T n7 (by omega)) (by omega) (by omega) (Int.toNat_natCast _) dX10_goes_436 ?_
                                      refine lv_istore (lv' := [(8, .int (s5 69 n7)), (0, .ref (G.2.1 35)), (7, .int (nI n7))]) hC.x hC.b dX10_goes_437 hl (by decide) rfl (fun ls hl => ?_)
                                      refine lv_aload_n hC.x hC.b dX10_goes_439 rfl (lv_at hl 1 rfl) ?_
                                      refine rget hC hK hR (ct_model G _ _) rfl uin_X10 39 (by decide) TF_X10_120 rfl dX10_goes_440 ?_
                                      refine lv_iload hC.x hC.b dX10_goes_443 (lv_at hl 2 rfl) ?_
                                      refine lv_aload_n hC.x hC.b dX10_goes_445 rfl (lv_at hl 1 rfl) ?_
                                      refine rget hC hK hR (ct_model G _ _) rfl uin_X10 39 (by decide) TF_X10_120 rfl dX10_goes_446 ?_
                                      refine lv_aload_n hC.x hC.b dX10_goes_449 rfl (lv_at hl 1 rfl) ?_
                                      refine rget hC hK hR (ct_model G _ _) rfl uin_X10 41 (by decide) TF_X10_155 rfl dX10_goes_450 ?_
                                      refine lv_iconst (v := 1) hC.x hC.b dX10_goes_453 (by decide) ?_
                                      refine lv_isub hC.x hC.b dX10_goes_454 ?_
                                      have pr_22 : ((s5 35 41) - (1 : Int32)).toInt = ((s5 35 41).toInt - 1) := subI rfl rfl (by omega) (by omega)
                                      refine lv_iload hC.x hC.b dX10_goes_455 (lv_at hl 2 rfl) ?_
                                      refine lv_isub hC.x hC.b dX10_goes_457 ?_
                                      have pr_23 : (((s5 35 41) - (1 : Int32)) - (nI n7)).toInt = (((s5 35 41).toInt - 1) - (n7 : Int)) := subI pr_22 (nI_T n7 (by omega)) (by omega) (by omega)
                                      refine ald hC hK hR (ct_m_going G _ _) pr_23 (by omega) (by omega) rfl dX10_goes_458 ?_
                                      refine ast hC hK hG hR hS (fun _ => ct_m_going G _ _) (nI_T n7 (by omega)) (by omega) (by omega) (Int.toNat_natCast _) dX10_goes_459 (fun s_24 es_25 H locs hR hS => ?_)
                                      refine lv_aload_n hC.x hC.b dX10_goes_460 rfl (lv_at hl 1 rfl) ?_
                                      refine rget hC hK hR (ct_model G _ _) rfl uin_X10 39 (by decide) TF_X10_120 rfl dX10_goes_461 ?_
                                      refine lv_aload_n hC.x hC.b dX10_goes_464 rfl (lv_at hl 1 rfl) ?_
                                      refine rget hC hK hR (ct_model G _ _) rfl uin_X10 41 (by decide) TF_X10_155 rfl dX10_goes_465 ?_
                                      rw [show s_24 35 41 = (s5 35 41) from (show s_24 35 41 = s5 35 41 from (by rw [es_25]; exact up2_o (by omega)))]
                                      refine lv_iconst (v := 1) hC.x hC.b dX10_goes_468 (by decide) ?_
                                      refine lv_isub hC.x hC.b dX10_goes_469 ?_
                                      have pr_26 : ((s5 35 41) - (1 : Int32)).toInt = ((s5 35 41).toInt - 1) := subI rfl rfl (by omega) (by omega)
                                      refine lv_iload hC.x hC.b dX10_goes_470 (lv_at hl 2 rfl) ?_
                                      refine lv_isub hC.x hC.b dX10_goes_472 ?_
                                      have pr_27 : (((s5 35 41) - (1 : Int32)) - (nI n7)).toInt = (((s5 35 41).toInt - 1) - (n7 : Int)) := subI pr_26 (nI_T n7 (by omega)) (by omega) (by omega)
                                      refine lv_iload hC.x hC.b dX10_goes_473 (lv_at hl 0 rfl) ?_
                                      refine ast hC hK hG hR hS (fun _ => ct_m_going G _ _) pr_27 (by omega) (by omega) rfl dX10_goes_475 (fun s_28 es_29 H locs hR hS => ?_)
                                      have rd_30 : (s_28 35 41).toInt = (s5 35 41).toInt := congrArg Int32.toInt (Eq.trans (show s_28 35 41 = s_24 35 41 from (by rw [es_29]; exact up2_o (by omega))) (show s_24 35 41 = s5 35 41 from (by rw [es_25]; exact up2_o (by omega))))
                                      refine lv_iinc (v := nI (n7 + 1)) (lv' := [(7, .int (nI (n7 + 1))), (8, .int (s5 69 n7)), (0, .ref (G.2.1 35))]) hC.x hC.b dX10_goes_476 hl (k := 2) rfl (nI_succ _).symm (by decide) rfl (fun ls hl => ?_)
                                      refine lv_goto (tgt := 417) hC.x hC.b dX10_goes_479 (by decide) ?_
                                      exact ih_417 (n7 + 1) s_28 (by omega) (by first | omega | assumption) (by first | omega | assumption) (by rw [es_29]; exact MRel.up ((by rw [es_25]; exact MRel.up (hi2_417) (by omega) (by first | omega | (dsimp only; omega)))) (by omega) (by first | omega | (dsimp only; omega))) _ _ _ hR hS (lv_sub hl [2, 0] rfl)
                                exact L_417 _ 0 s_17 (Nat.lt_succ_self _) (by first | omega | assumption) (by first | omega | assumption) (by rw [es_16]; exact MRel.upm (hi5_251) (by first | omega | (dsimp only; omega))) _ _ _ hR hS (lv_sub hl [1, 0] rfl)
                              · skip
                                refine lv_iconst (v := 1) hC.x hC.b dX10_goes_403 (by decide) ?_
                                exact retz hC hK hR hS (Or.inr rfl) (by first | exact Or.inl (⟨by first | rfl | omega, by exact hi5_251, by first | omega | (dsimp only; omega)⟩) | exact False.elim (by omega)) dX10_goes_404
                            · skip
                              refine lv_iconst (v := 0) hC.x hC.b dX10_goes_258 (by decide) ?_
                              refine lv_istore (lv' := [(7, .int (0 : Int32)), (0, .ref (G.2.1 35)), (1, .int xa), (2, .int ya), (3, .int hr), (5, .int b5), (6, .int h6)]) hC.x hC.b dX10_goes_259 hl (by decide) rfl (fun ls hl => ?_)
                              have L_261 : ∀ (F : Nat) (j : Nat), (24 - j) < F → (∃ w0, j ≤ w0 ∧ w0 < 24 ∧ GdM s4 hr hq h6 w0) → ∀ (H : Heap) (locs : List Loc) (ls : Array Slot), RepH G s4 τ H → va_S A s.heap H locs → lv_has ls 9 [(0, .ref (G.2.1 35)), (1, .int xa), (2, .int ya), (3, .int hr), (5, .int b5), (6, .int h6), (7, .int (nI j))] → W p l e (rmD 2) s m args below meth c H locs 0 0 (MQ below (va_Qi (po_X10_goes σ τ xa xq ya yq hr hq) (BU G) A) args s 0 0 A) (F0 m 261 ls []) := by
                                intro F
                                induction F with
                                | zero => intro j hm; exact absurd hm (Nat.not_lt_zero _)
                                | succ F ih_261 =>
                                  intro j hm_261 hi0_261 H locs ls hR hS hl
                                  obtain ⟨lw, lw1, lw2, lw3⟩ := hi0_261
                                  have hnI := nI_T j (by omega)
                                  refine lv_aload_n hC.x hC.b dX10_goes_261 rfl (lv_at hl 0 rfl) ?_
                                  refine lv_iload hC.x hC.b dX10_goes_262 (lv_at hl 6 rfl) ?_
                                  have av_31 : (nI j).toInt = (j : Int) := (nI_T j (by omega))
                                  refine goip (runV (As := [.int (nI j)]) (rest := []) hC hK hR hl.1 (c_X10_isLink l hG s4 τ (nI j) j (by first | rfl | (rw [show (nI j).toInt = (j : Int) from (nI_T j (by omega))]; done) | (rw [show (nI j).toInt = (j : Int) from (nI_T j (by omega))]; exact (Int.toNat_natCast _))) ) (call_b hC.ts TC_X10_isLink TN_X10 TM_X10_148 hd_X10_isLink ⟨Nat.le_of_ble_eq_true rfl, Nat.le_of_ble_eq_true rfl⟩) TI_X10_isLink TS_X10_isLink (ct_model G _ _) rfl rfl rfl (Nat.le_of_ble_eq_true rfl) dX10_goes_264 ⟨Nat.le_of_ble_eq_true rfl, Nat.le_of_ble_eq_true rfl⟩) hS (fun v_32 H locs w_33 hR hS => ?_)
                                  rcases w_33 with ⟨rfl, f_34, f_35⟩ | ⟨rfl, f_36⟩
                                  · skip
                                    refine bz_eq (tgt := 319) (a := 1) (b := 0) hC.x hC.b rfl rfl dX10_goes_267 (by decide) (fun c_37 => absurd c_37 (by decide)) (fun _ => ?_)
                                    refine lv_aload_n hC.x hC.b dX10_goes_270 rfl (lv_at hl 0 rfl) ?_
                                    refine lv_iload hC.x hC.b dX10_goes_271 (lv_at hl 6 rfl) ?_
                                    refine lv_iload_n hC.x hC.b dX10_goes_273 rfl (lv_at hl 3 rfl) ?_
                                    have av_38 : (nI j).toInt = (j : Int) := (nI_T j (by omega))
                                    have rd_39 : (s4 35 29).toInt = (σ 35 29).toInt := congrArg Int32.toInt (show s4 35 29 = σ 35 29 from hi5_251.2 29 (by first | omega | (dsimp only; omega)))
                                    refine goip (runV (As := [.int (nI j), .int hr]) (rest := []) hC hK hR hl.1 (c_X10_told l hG s4 τ (nI j) j (by first | rfl | (rw [show (nI j).toInt = (j : Int) from (nI_T j (by omega))]; done) | (rw [show (nI j).toInt = (j : Int) from (nI_T j (by omega))]; exact (Int.toNat_natCast _))) hr hq (by first | rfl | (rw [show hr.toInt = hr.toInt from rfl]; done) | (rw [show hr.toInt = hr.toInt from rfl]; exact hp_hq)) (by first | assumption | omega) (by omega)) (call_b hC.ts TC_X10_told TN_X10 TM_X10_152 hd_X10_told ⟨Nat.le_of_ble_eq_true rfl, Nat.le_of_ble_eq_true rfl⟩) TI_X10_told TS_X10_told (ct_model G _ _) rfl rfl rfl (Nat.le_of_ble_eq_true rfl) dX10_goes_274 ⟨Nat.le_of_ble_eq_true rfl, Nat.le_of_ble_eq_true rfl⟩) hS (fun v_40 H locs w_41 hR hS => ?_)
                                    subst w_41
                                    refine lv_ldc hC.x hC.b hC.ow (hC.ts _ TK_X10_151) dX10_goes_277 ?_
                                    refine bi_eq (tgt := 319) (a := (toldM s4 j hr hq).toInt) (b := 1000000) hC.x hC.b rfl rfl dX10_goes_279 (by decide) (fun c_42 => ?_) (fun c_42 => ?_)
                                    · skip
                                      refine lv_iinc (v := nI (j + 1)) (lv' := [(7, .int (nI (j + 1))), (0, .ref (G.2.1 35)), (1, .int xa), (2, .int ya), (3, .int hr), (5, .int b5), (6, .int h6)]) hC.x hC.b dX10_goes_319 hl (k := 6) rfl (nI_succ _).symm (by decide) rfl (fun ls hl => ?_)
                                      refine lv_goto (tgt := 261) hC.x hC.b dX10_goes_322 (by decide) ?_
                                      exact ih_261 (j + 1) (by omega) (by refine ⟨lw, ?_, lw2, lw3⟩; rcases Nat.eq_or_lt_of_le lw1 with e9 | e9; (exfalso; subst e9; obtain ⟨g1, g2, g3, g4, g5⟩ := lw3; omega); omega) _ _ _ hR hS (lv_sub hl [1, 2, 3, 4, 5, 6, 0] rfl)
                                    · skip
                                      refine lv_aload_n hC.x hC.b dX10_goes_282 rfl (lv_at hl 0 rfl) ?_
                                      refine lv_iload hC.x hC.b dX10_goes_283 (lv_at hl 6 rfl) ?_
                                      refine lv_iload hC.x hC.b dX10_goes_285 (lv_at hl 5 rfl) ?_
                                      have av_43 : (nI j).toInt = (j : Int) := (nI_T j (by omega))
                                      refine goip (runV (As := [.int (nI j), .int h6]) (rest := []) hC hK hR hl.1 (c_X10_other l hG s4 τ (nI j) j (by first | rfl | (rw [show (nI j).toInt = (j : Int) from (nI_T j (by omega))]; done) | (rw [show (nI j).toInt = (j : Int) from (nI_T j (by omega))]; exact (Int.toNat_natCast _))) h6 (by omega)) (call_b hC.ts TC_X10_other TN_X10 TM_X10_161 hd_X10_other ⟨Nat.le_of_ble_eq_true rfl, Nat.le_of_ble_eq_true rfl⟩) TI_X10_other TS_X10_other (ct_model G _ _) rfl rfl rfl (Nat.le_of_ble_eq_true rfl) dX10_goes_287 ⟨Nat.le_of_ble_eq_true rfl, Nat.le_of_ble_eq_true rfl⟩) hS (fun v_44 H locs w_45 hR hS => ?_)
                                      subst w_45
                                      refine lv_iconst (v := (-1)) hC.x hC.b dX10_goes_290 (by decide) ?_
                                      refine bi_eq (tgt := 319) (a := (otherM s4 j h6).toInt) (b := (-1)) hC.x hC.b rfl rfl dX10_goes_291 (by decide) (fun c_46 => ?_) (fun c_46 => ?_)
                                      · skip
                                        refine lv_iinc (v := nI (j + 1)) (lv' := [(7, .int (nI (j + 1))), (0, .ref (G.2.1 35)), (1, .int xa), (2, .int ya), (3, .int hr), (5, .int b5), (6, .int h6)]) hC.x hC.b dX10_goes_319 hl (k := 6) rfl (nI_succ _).symm (by decide) rfl (fun ls hl => ?_)
                                        refine lv_goto (tgt := 261) hC.x hC.b dX10_goes_322 (by decide) ?_
                                        exact ih_261 (j + 1) (by omega) (by refine ⟨lw, ?_, lw2, lw3⟩; rcases Nat.eq_or_lt_of_le lw1 with e9 | e9; (exfalso; subst e9; obtain ⟨g1, g2, g3, g4, g5⟩ := lw3; omega); omega) _ _ _ hR hS (lv_sub hl [1, 2, 3, 4, 5, 6, 0] rfl)
                                      · skip
                                        have rd_47 : (s4 36 j).toInt = (σ 36 j).toInt := congrArg Int32.toInt (show s4 36 j = σ 36 j from congrFun (hi5_251.1 36 (by omega) (by first | omega | (dsimp only; omega) | (intro h; exact h))) j)
                                        have hlj := hln j (by omega) ⟨by omega, by omega⟩
                                        have hoi := otherM_in (σ := s4) (j := j) (h6 := h6) (by rw [hi5_251.1 37 (by omega) (by omega), hi5_251.1 38 (by omega) (by omega)]; exact hlj) (by omega)
                                        have hb6 : 0 ≤ (s4 68 h6.toInt.toNat).toInt ∧ (s4 68 h6.toInt.toNat).toInt ≤ 99 := hi1_251.1 _ (by omega)
                                        have hbo : 0 ≤ (s4 68 (otherM s4 j h6).toInt.toNat).toInt ∧ (s4 68 (otherM s4 j h6).toInt.toNat).toInt ≤ 99 := hi1_251.1 _ (by omega)
                                        refine lv_aload_n hC.x hC.b dX10_goes_294 rfl (lv_at hl 0 rfl) ?_
                                        refine rget hC hK hR (ct_model G _ _) rfl uin_X10 38 (by decide) TF_X10_117 rfl dX10_goes_295 ?_
                                        refine lv_aload_n hC.x hC.b dX10_goes_298 rfl (lv_at hl 0 rfl) ?_
                                        refine lv_iload hC.x hC.b dX10_goes_299 (lv_at hl 6 rfl) ?_
                                        refine lv_iload hC.x hC.b dX10_goes_301 (lv_at hl 5 rfl) ?_
                                        have av_48 : (nI j).toInt = (j : Int) := (nI_T j (by omega))
                                        refine goip (runV (As := [.int (nI j), .int h6]) (rest := [.ref (G.2.1 68)]) hC hK hR hl.1 (c_X10_other l hG s4 τ (nI j) j (by first | rfl | (rw [show (nI j).toInt = (j : Int) from (nI_T j (by omega))]; done) | (rw [show (nI j).toInt = (j : Int) from (nI_T j (by omega))]; exact (Int.toNat_natCast _))) h6 (by omega)) (call_b hC.ts TC_X10_other TN_X10 TM_X10_161 hd_X10_other ⟨Nat.le_of_ble_eq_true rfl, Nat.le_of_ble_eq_true rfl⟩) TI_X10_other TS_X10_other (ct_model G _ _) rfl rfl rfl (Nat.le_of_ble_eq_true rfl) dX10_goes_303 ⟨Nat.le_of_ble_eq_true rfl, Nat.le_of_ble_eq_true rfl⟩) hS (fun v_49 H locs w_50 hR hS => ?_)
                                        subst w_50
                                        refine ald hC hK hR (ct_m_far G _ _) rfl (by omega) (by omega) rfl dX10_goes_306 ?_
                                        refine lv_aload_n hC.x hC.b dX10_goes_307 rfl (lv_at hl 0 rfl) ?_
                                        refine rget hC hK hR (ct_model G _ _) rfl uin_X10 38 (by decide) TF_X10_117 rfl dX10_goes_308 ?_
                                        refine lv_iload hC.x hC.b dX10_goes_311 (lv_at hl 5 rfl) ?_
                                        refine ald hC hK hR (ct_m_far G _ _) rfl (by omega) (by omega) rfl dX10_goes_313 ?_
                                        refine lv_iconst (v := 1) hC.x hC.b dX10_goes_314 (by decide) ?_
                                        refine lv_isub hC.x hC.b dX10_goes_315 ?_
                                        have pr_51 : ((s4 68 h6.toInt.toNat) - (1 : Int32)).toInt = ((s4 68 h6.toInt.toNat).toInt - 1) := subI rfl rfl (by omega) (by omega)
                                        refine bi_eq (tgt := 325) (a := (s4 68 (((otherM s4 j h6).toInt).toNat)).toInt) (b := ((s4 68 h6.toInt.toNat).toInt - 1)) hC.x hC.b rfl pr_51 dX10_goes_316 (by decide) (fun c_52 => ?_) (fun c_52 => ?_)
                                        · skip
                                          refine lv_aload_n hC.x hC.b dX10_goes_325 rfl (lv_at hl 0 rfl) ?_
                                          refine lv_dup hC.x hC.b dX10_goes_326 rfl ?_
                                          refine rget hC hK hR (ct_model G _ _) rfl uin_X10 43 (by decide) TF_X10_158 rfl dX10_goes_327 ?_
                                          refine lv_aload_n hC.x hC.b dX10_goes_330 rfl (lv_at hl 0 rfl) ?_
                                          refine rget hC hK hR (ct_model G _ _) rfl uin_X10 1 (by decide) TF_X10_13 rfl dX10_goes_331 ?_
                                          refine lv_iload hC.x hC.b dX10_goes_334 (lv_at hl 6 rfl) ?_
                                          refine ald hC hK hR (ct_m_one G _ _) (nI_T j (by omega)) (by omega) (by omega) (Int.toNat_natCast _) dX10_goes_336 ?_
                                          rw [show s4 37 j = (σ 37 j) from (show s4 37 j = σ 37 j from congrFun (hi5_251.1 37 (by omega) (by first | omega | (dsimp only; omega) | (intro h; exact h))) j)]
                                          refine lv_iload hC.x hC.b dX10_goes_337 (lv_at hl 5 rfl) ?_
                                          refine bi_ne (tgt := 352) (a := (σ 37 j).toInt) (b := h6.toInt) hC.x hC.b rfl rfl dX10_goes_339 (by decide) (fun c_53 => ?_) (fun c_53 => ?_)
                                          · skip
                                            refine lv_aload_n hC.x hC.b dX10_goes_352 rfl (lv_at hl 0 rfl) ?_
                                            refine lv_iload hC.x hC.b dX10_goes_353 (lv_at hl 6 rfl) ?_
                                            refine lv_iload_n hC.x hC.b dX10_goes_355 rfl (lv_at hl 3 rfl) ?_
                                            have av_54 : (nI j).toInt = (j : Int) := (nI_T j (by omega))
                                            have rd_55 : (s4 35 29).toInt = (σ 35 29).toInt := congrArg Int32.toInt (show s4 35 29 = σ 35 29 from hi5_251.2 29 (by first | omega | (dsimp only; omega)))
                                            refine goip (runV (As := [.int (nI j), .int hr]) (rest := [.int (s4 35 43), .ref (G.2.1 35)]) hC hK hR hl.1 (c_X10_told l hG s4 τ (nI j) j (by first | rfl | (rw [show (nI j).toInt = (j : Int) from (nI_T j (by omega))]; done) | (rw [show (nI j).toInt = (j : Int) from (nI_T j (by omega))]; exact (Int.toNat_natCast _))) hr hq (by first | rfl | (rw [show hr.toInt = hr.toInt from rfl]; done) | (rw [show hr.toInt = hr.toInt from rfl]; exact hp_hq)) (by first | assumption | omega) (by omega)) (call_b hC.ts TC_X10_told TN_X10 TM_X10_152 hd_X10_told ⟨Nat.le_of_ble_eq_true rfl, Nat.le_of_ble_eq_true rfl⟩) TI_X10_told TS_X10_told (ct_model G _ _) rfl rfl rfl (Nat.le_of_ble_eq_true rfl) dX10_goes_356 ⟨Nat.le_of_ble_eq_true rfl, Nat.le_of_ble_eq_true rfl⟩) hS (fun v_56 H locs w_57 hR hS => ?_)
                                            subst w_57
                                            refine lv_ineg hC.x hC.b dX10_goes_359 ?_
                                            refine lv_iadd hC.x hC.b dX10_goes_360 ?_
                                            refine rputi hC hK hG hR hS (ct_model G _ _) rfl uin_X10 tyX10 tyX10_ok nmX10 43 (by decide) TF_X10_158 rfl (Or.inl rfl) (Nat.le_of_ble_eq_true rfl) rfl (ct_model G _ _) dX10_goes_361 (fun s_59 es_58 H locs hR hS => ?_)
                                            refine lv_aload_n hC.x hC.b dX10_goes_364 rfl (lv_at hl 0 rfl) ?_
                                            refine rget hC hK hR (ct_model G _ _) rfl uin_X10 39 (by decide) TF_X10_120 rfl dX10_goes_365 ?_
                                            refine lv_aload_n hC.x hC.b dX10_goes_368 rfl (lv_at hl 0 rfl) ?_
                                            refine rget hC hK hR (ct_model G _ _) rfl uin_X10 41 (by decide) TF_X10_155 rfl dX10_goes_369 ?_
                                            rw [show s_59 35 41 = (s4 35 41) from (show s_59 35 41 = s4 35 41 from (by rw [es_58]; exact up2_n (by omega)))]
                                            refine lv_iload hC.x hC.b dX10_goes_372 (lv_at hl 6 rfl) ?_
                                            refine ast hC hK hG hR hS (fun _ => ct_m_going G _ _) rfl (by omega) (by omega) rfl dX10_goes_374 (fun s_60 es_61 H locs hR hS => ?_)
                                            refine lv_aload_n hC.x hC.b dX10_goes_375 rfl (lv_at hl 0 rfl) ?_
                                            refine lv_dup hC.x hC.b dX10_goes_376 rfl ?_
                                            refine rget hC hK hR (ct_model G _ _) rfl uin_X10 41 (by decide) TF_X10_155 rfl dX10_goes_377 ?_
                                            rw [show s_60 35 41 = (s4 35 41) from (Eq.trans (show s_60 35 41 = s_59 35 41 from (by rw [es_61]; exact up2_o (by omega))) (show s_59 35 41 = s4 35 41 from (by rw [es_58]; exact up2_n (by omega))))]
                                            refine lv_iconst (v := 1) hC.x hC.b dX10_goes_380 (by decide) ?_
                                            refine lv_iadd hC.x hC.b dX10_goes_381 ?_
                                            have pr_62 : ((s4 35 41) + (1 : Int32)).toInt = ((s4 35 41).toInt + 1) := addI rfl rfl (by omega) (by omega)
                                            refine rputi hC hK hG hR hS (ct_model G _ _) rfl uin_X10 tyX10 tyX10_ok nmX10 41 (by decide) TF_X10_155 rfl (Or.inl rfl) (Nat.le_of_ble_eq_true rfl) rfl (ct_model G _ _) dX10_goes_382 (fun s_64 es_63 H locs hR hS => ?_)
                                            refine lv_aload_n hC.x hC.b dX10_goes_385 rfl (lv_at hl 0 rfl) ?_
                                            refine lv_iload hC.x hC.b dX10_goes_386 (lv_at hl 6 rfl) ?_
                                            refine lv_iload hC.x hC.b dX10_goes_388 (lv_at hl 5 rfl) ?_
                                            have av_65 : (nI j).toInt = (j : Int) := (nI_T j (by omega))
                                            refine goip (runV (As := [.int (nI j), .int h6]) (rest := []) hC hK hR hl.1 (c_X10_other l hG s_64 τ (nI j) j (by first | rfl | (rw [show (nI j).toInt = (j : Int) from (nI_T j (by omega))]; done) | (rw [show (nI j).toInt = (j : Int) from (nI_T j (by omega))]; exact (Int.toNat_natCast _))) h6 (by omega)) (call_b hC.ts TC_X10_other TN_X10 TM_X10_161 hd_X10_other ⟨Nat.le_of_ble_eq_true rfl, Nat.le_of_ble_eq_true rfl⟩) TI_X10_other TS_X10_other (ct_model G _ _) rfl rfl rfl (Nat.le_of_ble_eq_true rfl) dX10_goes_390 ⟨Nat.le_of_ble_eq_true rfl, Nat.le_of_ble_eq_true rfl⟩) hS (fun v_66 H locs w_67 hR hS => ?_)
                                            subst w_67
                                            have hoe : otherM s_64 j h6 = otherM s4 j h6 := by subst es_63; subst es_61; subst es_58; rfl
                                            refine lv_topi (fun x_68 ex_69 => ?_)
                                            refine lv_istore (lv' := [(6, .int x_68), (0, .ref (G.2.1 35)), (1, .int xa), (2, .int ya), (3, .int hr), (5, .int b5), (7, .int (nI j))]) hC.x hC.b dX10_goes_393 hl (by decide) rfl (fun ls hl => ?_)
                                            have rd_70 : (s_64 35 41).toInt = ((s4 35 41) + (1 : Int32)).toInt := congrArg Int32.toInt (show s_64 35 41 = ((s4 35 41) + (1 : Int32)) from (by rw [es_63]; exact up2_s))
                                            have rd_71 : (s_64 68 x_68.toInt.toNat).toInt = (s4 68 x_68.toInt.toNat).toInt := congrArg Int32.toInt (Eq.trans (show s_64 68 x_68.toInt.toNat = s_60 68 x_68.toInt.toNat from (by rw [es_63]; exact up2_o (by omega))) (Eq.trans (show s_60 68 x_68.toInt.toNat = s_59 68 x_68.toInt.toNat from (by rw [es_61]; exact up2_o (by omega))) (show s_59 68 x_68.toInt.toNat = s4 68 x_68.toInt.toNat from (by rw [es_58]; exact up2_o (by omega)))))
                                            have hx6 : x_68.toInt = (otherM s4 j h6).toInt := by rw [ex_69, hoe]
                                            have hx7 : (s4 68 x_68.toInt.toNat).toInt = (s4 68 (otherM s4 j h6).toInt.toNat).toInt := by rw [hx6]
                                            refine lv_goto (tgt := 251) hC.x hC.b dX10_goes_395 (by decide) ?_
                                            exact ih_251 x_68 s_64 (by omega) (by first | omega | assumption) (by subst es_63; subst es_61; subst es_58; exact hi1_251) (by subst es_63; subst es_61; subst es_58; exact hi2_251) (by first | omega | assumption) (by first | omega | assumption) (by rw [es_63]; exact MRel.upm ((by rw [es_61]; exact MRel.up ((by rw [es_58]; exact MRel.upm (hi5_251) (by first | omega | (dsimp only; omega)))) (by omega) (by first | omega | (dsimp only; omega)))) (by first | omega | (dsimp only; omega))) _ _ _ hR hS (lv_sub hl [1, 2, 3, 4, 5, 0] rfl)
                                          · skip
                                            refine lv_aload_n hC.x hC.b dX10_goes_342 rfl (lv_at hl 0 rfl) ?_
                                            refine lv_iload hC.x hC.b dX10_goes_343 (lv_at hl 6 rfl) ?_
                                            refine lv_iload_n hC.x hC.b dX10_goes_345 rfl (lv_at hl 3 rfl) ?_
                                            have av_72 : (nI j).toInt = (j : Int) := (nI_T j (by omega))
                                            have rd_73 : (s4 35 29).toInt = (σ 35 29).toInt := congrArg Int32.toInt (show s4 35 29 = σ 35 29 from hi5_251.2 29 (by first | omega | (dsimp only; omega)))
                                            refine goip (runV (As := [.int (nI j), .int hr]) (rest := [.int (s4 35 43), .ref (G.2.1 35)]) hC hK hR hl.1 (c_X10_told l hG s4 τ (nI j) j (by first | rfl | (rw [show (nI j).toInt = (j : Int) from (nI_T j (by omega))]; done) | (rw [show (nI j).toInt = (j : Int) from (nI_T j (by omega))]; exact (Int.toNat_natCast _))) hr hq (by first | rfl | (rw [show hr.toInt = hr.toInt from rfl]; done) | (rw [show hr.toInt = hr.toInt from rfl]; exact hp_hq)) (by first | assumption | omega) (by omega)) (call_b hC.ts TC_X10_told TN_X10 TM_X10_152 hd_X10_told ⟨Nat.le_of_ble_eq_true rfl, Nat.le_of_ble_eq_true rfl⟩) TI_X10_told TS_X10_told (ct_model G _ _) rfl rfl rfl (Nat.le_of_ble_eq_true rfl) dX10_goes_346 ⟨Nat.le_of_ble_eq_true rfl, Nat.le_of_ble_eq_true rfl⟩) hS (fun v_74 H locs w_75 hR hS => ?_)
                                            subst w_75
                                            refine lv_goto (tgt := 360) hC.x hC.b dX10_goes_349 (by decide) ?_
                                            refine lv_iadd hC.x hC.b dX10_goes_360 ?_
                                            refine rputi hC hK hG hR hS (ct_model G _ _) rfl uin_X10 tyX10 tyX10_ok nmX10 43 (by decide) TF_X10_158 rfl (Or.inl rfl) (Nat.le_of_ble_eq_true rfl) rfl (ct_model G _ _) dX10_goes_361 (fun s_77 es_76 H locs hR hS => ?_)
                                            refine lv_aload_n hC.x hC.b dX10_goes_364 rfl (lv_at hl 0 rfl) ?_
                                            refine rget hC hK hR (ct_model G _ _) rfl uin_X10 39 (by decide) TF_X10_120 rfl dX10_goes_365 ?_
                                            refine lv_aload_n hC.x hC.b dX10_goes_368 rfl (lv_at hl 0 rfl) ?_
                                            refine rget hC hK hR (ct_model G _ _) rfl uin_X10 41 (by decide) TF_X10_155 rfl dX10_goes_369 ?_
                                            rw [show s_77 35 41 = (s4 35 41) from (show s_77 35 41 = s4 35 41 from (by rw [es_76]; exact up2_n (by omega)))]
                                            refine lv_iload hC.x hC.b dX10_goes_372 (lv_at hl 6 rfl) ?_
                                            refine ast hC hK hG hR hS (fun _ => ct_m_going G _ _) rfl (by omega) (by omega) rfl dX10_goes_374 (fun s_78 es_79 H locs hR hS => ?_)
                                            refine lv_aload_n hC.x hC.b dX10_goes_375 rfl (lv_at hl 0 rfl) ?_
                                            refine lv_dup hC.x hC.b dX10_goes_376 rfl ?_
                                            refine rget hC hK hR (ct_model G _ _) rfl uin_X10 41 (by decide) TF_X10_155 rfl dX10_goes_377 ?_
                                            rw [show s_78 35 41 = (s4 35 41) from (Eq.trans (show s_78 35 41 = s_77 35 41 from (by rw [es_79]; exact up2_o (by omega))) (show s_77 35 41 = s4 35 41 from (by rw [es_76]; exact up2_n (by omega))))]
                                            refine lv_iconst (v := 1) hC.x hC.b dX10_goes_380 (by decide) ?_
                                            refine lv_iadd hC.x hC.b dX10_goes_381 ?_
                                            have pr_80 : ((s4 35 41) + (1 : Int32)).toInt = ((s4 35 41).toInt + 1) := addI rfl rfl (by omega) (by omega)
                                            refine rputi hC hK hG hR hS (ct_model G _ _) rfl uin_X10 tyX10 tyX10_ok nmX10 41 (by decide) TF_X10_155 rfl (Or.inl rfl) (Nat.le_of_ble_eq_true rfl) rfl (ct_model G _ _) dX10_goes_382 (fun s_82 es_81 H locs hR hS => ?_)
                                            refine lv_aload_n hC.x hC.b dX10_goes_385 rfl (lv_at hl 0 rfl) ?_
                                            refine lv_iload hC.x hC.b dX10_goes_386 (lv_at hl 6 rfl) ?_
                                            refine lv_iload hC.x hC.b dX10_goes_388 (lv_at hl 5 rfl) ?_
                                            have av_83 : (nI j).toInt = (j : Int) := (nI_T j (by omega))
                                            refine goip (runV (As := [.int (nI j), .int h6]) (rest := []) hC hK hR hl.1 (c_X10_other l hG s_82 τ (nI j) j (by first | rfl | (rw [show (nI j).toInt = (j : Int) from (nI_T j (by omega))]; done) | (rw [show (nI j).toInt = (j : Int) from (nI_T j (by omega))]; exact (Int.toNat_natCast _))) h6 (by omega)) (call_b hC.ts TC_X10_other TN_X10 TM_X10_161 hd_X10_other ⟨Nat.le_of_ble_eq_true rfl, Nat.le_of_ble_eq_true rfl⟩) TI_X10_other TS_X10_other (ct_model G _ _) rfl rfl rfl (Nat.le_of_ble_eq_true rfl) dX10_goes_390 ⟨Nat.le_of_ble_eq_true rfl, Nat.le_of_ble_eq_true rfl⟩) hS (fun v_84 H locs w_85 hR hS => ?_)
                                            subst w_85
                                            have hoe : otherM s_82 j h6 = otherM s4 j h6 := by subst es_81; subst es_79; subst es_76; rfl
                                            refine lv_topi (fun x_86 ex_87 => ?_)
                                            refine lv_istore (lv' := [(6, .int x_86), (0, .ref (G.2.1 35)), (1, .int xa), (2, .int ya), (3, .int hr), (5, .int b5), (7, .int (nI j))]) hC.x hC.b dX10_goes_393 hl (by decide) rfl (fun ls hl => ?_)
                                            have rd_88 : (s_82 35 41).toInt = ((s4 35 41) + (1 : Int32)).toInt := congrArg Int32.toInt (show s_82 35 41 = ((s4 35 41) + (1 : Int32)) from (by rw [es_81]; exact up2_s))
                                            have rd_89 : (s_82 68 x_86.toInt.toNat).toInt = (s4 68 x_86.toInt.toNat).toInt := congrArg Int32.toInt (Eq.trans (show s_82 68 x_86.toInt.toNat = s_78 68 x_86.toInt.toNat from (by rw [es_81]; exact up2_o (by omega))) (Eq.trans (show s_78 68 x_86.toInt.toNat = s_77 68 x_86.toInt.toNat from (by rw [es_79]; exact up2_o (by omega))) (show s_77 68 x_86.toInt.toNat = s4 68 x_86.toInt.toNat from (by rw [es_76]; exact up2_o (by omega)))))
                                            have hx6 : x_86.toInt = (otherM s4 j h6).toInt := by rw [ex_87, hoe]
                                            have hx7 : (s4 68 x_86.toInt.toNat).toInt = (s4 68 (otherM s4 j h6).toInt.toNat).toInt := by rw [hx6]
                                            refine lv_goto (tgt := 251) hC.x hC.b dX10_goes_395 (by decide) ?_
                                            exact ih_251 x_86 s_82 (by omega) (by first | omega | assumption) (by subst es_81; subst es_79; subst es_76; exact hi1_251) (by subst es_81; subst es_79; subst es_76; exact hi2_251) (by first | omega | assumption) (by first | omega | assumption) (by rw [es_81]; exact MRel.upm ((by rw [es_79]; exact MRel.up ((by rw [es_76]; exact MRel.upm (hi5_251) (by first | omega | (dsimp only; omega)))) (by omega) (by first | omega | (dsimp only; omega)))) (by first | omega | (dsimp only; omega))) _ _ _ hR hS (lv_sub hl [1, 2, 3, 4, 5, 0] rfl)
                                        · skip
                                          refine lv_iinc (v := nI (j + 1)) (lv' := [(7, .int (nI (j + 1))), (0, .ref (G.2.1 35)), (1, .int xa), (2, .int ya), (3, .int hr), (5, .int b5), (6, .int h6)]) hC.x hC.b dX10_goes_319 hl (k := 6) rfl (nI_succ _).symm (by decide) rfl (fun ls hl => ?_)
                                          refine lv_goto (tgt := 261) hC.x hC.b dX10_goes_322 (by decide) ?_
                                          exact ih_261 (j + 1) (by omega) (by refine ⟨lw, ?_, lw2, lw3⟩; rcases Nat.eq_or_lt_of_le lw1 with e9 | e9; (exfalso; subst e9; obtain ⟨g1, g2, g3, g4, g5⟩ := lw3; omega); omega) _ _ _ hR hS (lv_sub hl [1, 2, 3, 4, 5, 6, 0] rfl)
                                  · skip
                                    refine bz_eq (tgt := 319) (a := 0) (b := 0) hC.x hC.b rfl rfl dX10_goes_267 (by decide) (fun _ => ?_) (fun c_90 => absurd c_90 (by decide))
                                    refine lv_iinc (v := nI (j + 1)) (lv' := [(7, .int (nI (j + 1))), (0, .ref (G.2.1 35)), (1, .int xa), (2, .int ya), (3, .int hr), (5, .int b5), (6, .int h6)]) hC.x hC.b dX10_goes_319 hl (k := 6) rfl (nI_succ _).symm (by decide) rfl (fun ls hl => ?_)
                                    refine lv_goto (tgt := 261) hC.x hC.b dX10_goes_322 (by decide) ?_
                                    exact ih_261 (j + 1) (by omega) (by refine ⟨lw, ?_, lw2, lw3⟩; rcases Nat.eq_or_lt_of_le lw1 with e9 | e9; (exfalso; subst e9; obtain ⟨g1, g2, g3, g4, g5⟩ := lw3; omega); omega) _ _ _ hR hS (lv_sub hl [1, 2, 3, 4, 5, 6, 0] rfl)
                              exact L_261 _ 0 (Nat.lt_succ_self _) (by exact gd_ex hln hi5_251 hi1_251 hi2_251 hi0_251 (by omega) (by have hb6 := (hi1_251.1 h6.toInt.toNat (by omega)); omega)) _ _ _ hR hS (lv_sub hl [1, 2, 3, 4, 5, 6, 0] rfl)
                        exact L_251 _ a4 s_10 (Nat.lt_succ_self _) (by first | omega | assumption) (by subst es_9; subst es_7; exact hi1_60) (by subst es_9; subst es_7; exact hL24) (by first | omega | assumption) (by first | omega | assumption) (by rw [es_9]; exact MRel.upm ((by rw [es_7]; exact MRel.upm (hi3_60) (by first | omega | (dsimp only; omega)))) (by first | omega | (dsimp only; omega))) _ _ _ hR hS (lv_sub hl [1, 2, 3, 4, 6, 0] rfl)
                      · skip
                        refine lv_iconst (v := 0) hC.x hC.b dX10_goes_245 (by decide) ?_
                        have rd_91 : (s_10 35 41).toInt = 0 := (congrArg Int32.toInt (Eq.trans (show s_10 35 41 = s_8 35 41 from (by rw [es_9]; exact up2_n (by omega))) (show s_8 35 41 = (0 : Int32) from (by rw [es_7]; exact up2_s)))).trans (by decide)
                        exact retz hC hK hR hS (Or.inl rfl) (by first | exact Or.inr ((⟨by subst es_9; subst es_7; (first | rfl | omega), by exact (by rw [es_9]; exact MRel.upm ((by rw [es_7]; exact MRel.upm (hi3_60) (by first | omega | (dsimp only; omega)))) (by first | omega | (dsimp only; omega))), by first | omega | (dsimp only; omega)⟩)) | exact False.elim (by omega)) dX10_goes_246
                    · skip
                      refine lv_iconst (v := 0) hC.x hC.b dX10_goes_67 (by decide) ?_
                      refine lv_istore (lv' := [(7, .int (0 : Int32)), (0, .ref (G.2.1 35)), (1, .int xa), (2, .int ya), (3, .int hr), (4, .int a4), (5, .int b5), (6, .int (nI n6))]) hC.x hC.b dX10_goes_68 hl (by decide) rfl (fun ls hl => ?_)
                      have L_70 : ∀ (F : Nat) (j : Nat) (s3 : SI), (24 - j) < F → (j ≤ 24) → (BFI (UM σ hr hq) (xM σ) (yM σ) b5.toInt.toNat (fM s3)) → (BFL (UM σ hr hq) (xM σ) (yM σ) (n6 : Int) j (fM s3)) → (MRel (fun k => k = 68 ∨ k = 69) (fun j => j = 41 ∨ j = 43) σ s3) → ∀ (H : Heap) (locs : List Loc) (ls : Array Slot), RepH G s3 τ H → va_S A s.heap H locs → lv_has ls 9 [(0, .ref (G.2.1 35)), (1, .int xa), (2, .int ya), (3, .int hr), (4, .int a4), (5, .int b5), (6, .int (nI n6)), (7, .int (nI j))] → W p l e (rmD 2) s m args below meth c H locs 0 0 (MQ below (va_Qi (po_X10_goes σ τ xa xq ya yq hr hq) (BU G) A) args s 0 0 A) (F0 m 70 ls []) := by
                        intro F
                        induction F with
                        | zero => intro j s3 hm; exact absurd hm (Nat.not_lt_zero _)
                        | succ F ih_70 =>
                          intro j s3 hm_70 hi0_70 hi1_70 hi2_70 hi3_70 H locs ls hR hS hl
                          have hnI := nI_T j (by omega)
                          refine lv_iload hC.x hC.b dX10_goes_70 (lv_at hl 7 rfl) ?_
                          refine lv_bipush (v := 24) hC.x hC.b dX10_goes_72 (by decide) ?_
                          refine bi_ge (tgt := 217) (a := (j : Int)) (b := 24) hC.x hC.b (nI_T j (by omega)) rfl dX10_goes_74 (by decide) (fun c_92 => ?_) (fun c_92 => ?_)
                          · skip
                            refine lv_iinc (v := nI (n6 + 1)) (lv' := [(6, .int (nI (n6 + 1))), (0, .ref (G.2.1 35)), (1, .int xa), (2, .int ya), (3, .int hr), (4, .int a4), (5, .int b5), (7, .int (nI j))]) hC.x hC.b dX10_goes_217 hl (k := 6) rfl (nI_succ _).symm (by decide) rfl (fun ls hl => ?_)
                            refine lv_goto (tgt := 60) hC.x hC.b dX10_goes_220 (by decide) ?_
                            exact ih_60 (n6 + 1) s3 (by omega) (by first | omega | assumption) (by exact hi1_70) (by (have hj : j = 24 := by omega); subst hj; rw [show (((n6 + 1 : Nat)) : Int) = (n6 : Int) + 1 by omega]; exact hi2_70.rd) hi3_70 _ _ _ hR hS (lv_sub hl [1, 2, 3, 4, 5, 6, 0] rfl)
                          · skip
                            refine lv_aload_n hC.x hC.b dX10_goes_77 rfl (lv_at hl 0 rfl) ?_
                            refine lv_iload hC.x hC.b dX10_goes_78 (lv_at hl 7 rfl) ?_
                            have av_93 : (nI j).toInt = (j : Int) := (nI_T j (by omega))
                            refine goip (runV (As := [.int (nI j)]) (rest := []) hC hK hR hl.1 (c_X10_isLink l hG s3 τ (nI j) j (by first | rfl | (rw [show (nI j).toInt = (j : Int) from (nI_T j (by omega))]; done) | (rw [show (nI j).toInt = (j : Int) from (nI_T j (by omega))]; exact (Int.toNat_natCast _))) ) (call_b hC.ts TC_X10_isLink TN_X10 TM_X10_148 hd_X10_isLink ⟨Nat.le_of_ble_eq_true rfl, Nat.le_of_ble_eq_true rfl⟩) TI_X10_isLink TS_X10_isLink (ct_model G _ _) rfl rfl rfl (Nat.le_of_ble_eq_true rfl) dX10_goes_80 ⟨Nat.le_of_ble_eq_true rfl, Nat.le_of_ble_eq_true rfl⟩) hS (fun v_94 H locs w_95 hR hS => ?_)
                            rcases w_95 with ⟨rfl, f_96, f_97⟩ | ⟨rfl, f_98⟩
                            · skip
                              refine bz_eq (tgt := 211) (a := 1) (b := 0) hC.x hC.b rfl rfl dX10_goes_83 (by decide) (fun c_99 => absurd c_99 (by decide)) (fun _ => ?_)
                              refine lv_aload_n hC.x hC.b dX10_goes_86 rfl (lv_at hl 0 rfl) ?_
                              refine lv_iload hC.x hC.b dX10_goes_87 (lv_at hl 7 rfl) ?_
                              refine lv_iload_n hC.x hC.b dX10_goes_89 rfl (lv_at hl 3 rfl) ?_
                              have av_100 : (nI j).toInt = (j : Int) := (nI_T j (by omega))
                              have rd_101 : (s3 35 29).toInt = (σ 35 29).toInt := congrArg Int32.toInt (show s3 35 29 = σ 35 29 from hi3_70.2 29 (by first | omega | (dsimp only; omega)))
                              refine goip (runV (As := [.int (nI j), .int hr]) (rest := []) hC hK hR hl.1 (c_X10_told l hG s3 τ (nI j) j (by first | rfl | (rw [show (nI j).toInt = (j : Int) from (nI_T j (by omega))]; done) | (rw [show (nI j).toInt = (j : Int) from (nI_T j (by omega))]; exact (Int.toNat_natCast _))) hr hq (by first | rfl | (rw [show hr.toInt = hr.toInt from rfl]; done) | (rw [show hr.toInt = hr.toInt from rfl]; exact hp_hq)) (by first | assumption | omega) (by omega)) (call_b hC.ts TC_X10_told TN_X10 TM_X10_152 hd_X10_told ⟨Nat.le_of_ble_eq_true rfl, Nat.le_of_ble_eq_true rfl⟩) TI_X10_told TS_X10_told (ct_model G _ _) rfl rfl rfl (Nat.le_of_ble_eq_true rfl) dX10_goes_90 ⟨Nat.le_of_ble_eq_true rfl, Nat.le_of_ble_eq_true rfl⟩) hS (fun v_102 H locs w_103 hR hS => ?_)
                              subst w_103
                              refine lv_ldc hC.x hC.b hC.ow (hC.ts _ TK_X10_151) dX10_goes_93 ?_
                              refine bi_ne (tgt := 101) (a := (toldM s3 j hr hq).toInt) (b := 1000000) hC.x hC.b rfl rfl dX10_goes_95 (by decide) (fun c_104 => ?_) (fun c_104 => ?_)
                              · skip
                                have rd_105 : (s3 36 j).toInt = (σ 36 j).toInt := congrArg Int32.toInt (show s3 36 j = σ 36 j from congrFun (hi3_70.1 36 (by omega) (by first | omega | (dsimp only; omega) | (intro h; exact h))) j)
                                have hU : UM σ hr hq j := ⟨by omega, by omega, by rw [← toldM_g (q := j) (hr := hr) (hq := hq) hi3_70]; omega⟩
                                have hlj := hln j (by omega) ⟨by omega, by omega⟩
                                have hbx : 0 ≤ (s3 68 (σ 37 j).toInt.toNat).toInt ∧ (s3 68 (σ 37 j).toInt.toNat).toInt ≤ 99 := hi1_70.1 _ (by omega)
                                have hby : 0 ≤ (s3 68 (σ 38 j).toInt.toNat).toInt ∧ (s3 68 (σ 38 j).toInt.toNat).toInt ≤ 99 := hi1_70.1 _ (by omega)
                                refine lv_aload_n hC.x hC.b dX10_goes_101 rfl (lv_at hl 0 rfl) ?_
                                refine rget hC hK hR (ct_model G _ _) rfl uin_X10 38 (by decide) TF_X10_117 rfl dX10_goes_102 ?_
                                refine lv_aload_n hC.x hC.b dX10_goes_105 rfl (lv_at hl 0 rfl) ?_
                                refine rget hC hK hR (ct_model G _ _) rfl uin_X10 1 (by decide) TF_X10_13 rfl dX10_goes_106 ?_
                                refine lv_iload hC.x hC.b dX10_goes_109 (lv_at hl 7 rfl) ?_
                                refine ald hC hK hR (ct_m_one G _ _) (nI_T j (by omega)) (by omega) (by omega) (Int.toNat_natCast _) dX10_goes_111 ?_
                                rw [show s3 37 j = (σ 37 j) from (show s3 37 j = σ 37 j from congrFun (hi3_70.1 37 (by omega) (by first | omega | (dsimp only; omega) | (intro h; exact h))) j)]
                                refine ald hC hK hR (ct_m_far G _ _) rfl (by omega) (by omega) rfl dX10_goes_112 ?_
                                refine lv_aload_n hC.x hC.b dX10_goes_113 rfl (lv_at hl 0 rfl) ?_
                                refine rget hC hK hR (ct_model G _ _) rfl uin_X10 38 (by decide) TF_X10_117 rfl dX10_goes_114 ?_
                                refine lv_aload_n hC.x hC.b dX10_goes_117 rfl (lv_at hl 0 rfl) ?_
                                refine rget hC hK hR (ct_model G _ _) rfl uin_X10 2 (by decide) TF_X10_16 rfl dX10_goes_118 ?_
                                refine lv_iload hC.x hC.b dX10_goes_121 (lv_at hl 7 rfl) ?_
                                refine ald hC hK hR (ct_m_two G _ _) (nI_T j (by omega)) (by omega) (by omega) (Int.toNat_natCast _) dX10_goes_123 ?_
                                rw [show s3 38 j = (σ 38 j) from (show s3 38 j = σ 38 j from congrFun (hi3_70.1 38 (by omega) (by first | omega | (dsimp only; omega) | (intro h; exact h))) j)]
                                refine ald hC hK hR (ct_m_far G _ _) rfl (by omega) (by omega) rfl dX10_goes_124 ?_
                                refine lv_iconst (v := 1) hC.x hC.b dX10_goes_125 (by decide) ?_
                                refine lv_iadd hC.x hC.b dX10_goes_126 ?_
                                have pr_106 : ((s3 68 (((σ 38 j).toInt).toNat)) + (1 : Int32)).toInt = ((s3 68 (((σ 38 j).toInt).toNat)).toInt + 1) := addI rfl rfl (by omega) (by omega)
                                refine bi_le (tgt := 156) (a := (s3 68 (((σ 37 j).toInt).toNat)).toInt) (b := ((s3 68 (((σ 38 j).toInt).toNat)).toInt + 1)) hC.x hC.b rfl pr_106 dX10_goes_127 (by decide) (fun c_107 => ?_) (fun c_107 => ?_)
                                · skip
                                  have hA1 : BFI (UM σ hr hq) (xM σ) (yM σ) b5.toInt.toNat (fM s3) ∧ BFL (UM σ hr hq) (xM σ) (yM σ) (n6 : Int) j (fM s3) ∧ (s3 68 (xM σ j)).toInt ≤ (s3 68 (yM σ j)).toInt + 1 := ⟨hi1_70, hi2_70, by assumption⟩
                                  refine lv_aload_n hC.x hC.b dX10_goes_156 rfl (lv_at hl 0 rfl) ?_
                                  refine rget hC hK hR (ct_model G _ _) rfl uin_X10 38 (by decide) TF_X10_117 rfl dX10_goes_157 ?_
                                  refine lv_aload_n hC.x hC.b dX10_goes_160 rfl (lv_at hl 0 rfl) ?_
                                  refine rget hC hK hR (ct_model G _ _) rfl uin_X10 2 (by decide) TF_X10_16 rfl dX10_goes_161 ?_
                                  refine lv_iload hC.x hC.b dX10_goes_164 (lv_at hl 7 rfl) ?_
                                  refine ald hC hK hR (ct_m_two G _ _) (nI_T j (by omega)) (by omega) (by omega) (Int.toNat_natCast _) dX10_goes_166 ?_
                                  rw [show s3 38 j = (σ 38 j) from (show s3 38 j = σ 38 j from congrFun (hi3_70.1 38 (by omega) (by first | omega | (dsimp only; omega) | (intro h; exact h))) j)]
                                  refine ald hC hK hR (ct_m_far G _ _) rfl (by omega) (by omega) rfl dX10_goes_167 ?_
                                  refine lv_aload_n hC.x hC.b dX10_goes_168 rfl (lv_at hl 0 rfl) ?_
                                  refine rget hC hK hR (ct_model G _ _) rfl uin_X10 38 (by decide) TF_X10_117 rfl dX10_goes_169 ?_
                                  refine lv_aload_n hC.x hC.b dX10_goes_172 rfl (lv_at hl 0 rfl) ?_
                                  refine rget hC hK hR (ct_model G _ _) rfl uin_X10 1 (by decide) TF_X10_13 rfl dX10_goes_173 ?_
                                  refine lv_iload hC.x hC.b dX10_goes_176 (lv_at hl 7 rfl) ?_
                                  refine ald hC hK hR (ct_m_one G _ _) (nI_T j (by omega)) (by omega) (by omega) (Int.toNat_natCast _) dX10_goes_178 ?_
                                  rw [show s3 37 j = (σ 37 j) from (show s3 37 j = σ 37 j from congrFun (hi3_70.1 37 (by omega) (by first | omega | (dsimp only; omega) | (intro h; exact h))) j)]
                                  refine ald hC hK hR (ct_m_far G _ _) rfl (by omega) (by omega) rfl dX10_goes_179 ?_
                                  refine lv_iconst (v := 1) hC.x hC.b dX10_goes_180 (by decide) ?_
                                  refine lv_iadd hC.x hC.b dX10_goes_181 ?_
                                  have pr_108 : ((s3 68 (((σ 37 j).toInt).toNat)) + (1 : Int32)).toInt = ((s3 68 (((σ 37 j).toInt).toNat)).toInt + 1) := addI rfl rfl (by omega) (by omega)
                                  refine bi_le (tgt := 211) (a := (s3 68 (((σ 38 j).toInt).toNat)).toInt) (b := ((s3 68 (((σ 37 j).toInt).toNat)).toInt + 1)) hC.x hC.b rfl pr_108 dX10_goes_182 (by decide) (fun c_109 => ?_) (fun c_109 => ?_)
                                  · skip
                                    have hA2 := bf_a0 hA1 (by show (s3 68 (σ 38 j).toInt.toNat).toInt ≤ (s3 68 (σ 37 j).toInt.toNat).toInt + 1; omega)
                                    refine lv_iinc (v := nI (j + 1)) (lv' := [(7, .int (nI (j + 1))), (0, .ref (G.2.1 35)), (1, .int xa), (2, .int ya), (3, .int hr), (4, .int a4), (5, .int b5), (6, .int (nI n6))]) hC.x hC.b dX10_goes_211 hl (k := 7) rfl (nI_succ _).symm (by decide) rfl (fun ls hl => ?_)
                                    refine lv_goto (tgt := 70) hC.x hC.b dX10_goes_214 (by decide) ?_
                                    exact ih_70 (j + 1) s3 (by omega) (by first | omega | assumption) (by exact hA2.1) (by exact hA2.2) hi3_70 _ _ _ hR hS (lv_sub hl [1, 2, 3, 4, 5, 6, 7, 0] rfl)
                                  · skip
                                    refine lv_aload_n hC.x hC.b dX10_goes_185 rfl (lv_at hl 0 rfl) ?_
                                    refine rget hC hK hR (ct_model G _ _) rfl uin_X10 38 (by decide) TF_X10_117 rfl dX10_goes_186 ?_
                                    refine lv_aload_n hC.x hC.b dX10_goes_189 rfl (lv_at hl 0 rfl) ?_
                                    refine rget hC hK hR (ct_model G _ _) rfl uin_X10 2 (by decide) TF_X10_16 rfl dX10_goes_190 ?_
                                    refine lv_iload hC.x hC.b dX10_goes_193 (lv_at hl 7 rfl) ?_
                                    refine ald hC hK hR (ct_m_two G _ _) (nI_T j (by omega)) (by omega) (by omega) (Int.toNat_natCast _) dX10_goes_195 ?_
                                    rw [show s3 38 j = (σ 38 j) from (show s3 38 j = σ 38 j from congrFun (hi3_70.1 38 (by omega) (by first | omega | (dsimp only; omega) | (intro h; exact h))) j)]
                                    refine lv_aload_n hC.x hC.b dX10_goes_196 rfl (lv_at hl 0 rfl) ?_
                                    refine rget hC hK hR (ct_model G _ _) rfl uin_X10 38 (by decide) TF_X10_117 rfl dX10_goes_197 ?_
                                    refine lv_aload_n hC.x hC.b dX10_goes_200 rfl (lv_at hl 0 rfl) ?_
                                    refine rget hC hK hR (ct_model G _ _) rfl uin_X10 1 (by decide) TF_X10_13 rfl dX10_goes_201 ?_
                                    refine lv_iload hC.x hC.b dX10_goes_204 (lv_at hl 7 rfl) ?_
                                    refine ald hC hK hR (ct_m_one G _ _) (nI_T j (by omega)) (by omega) (by omega) (Int.toNat_natCast _) dX10_goes_206 ?_
                                    rw [show s3 37 j = (σ 37 j) from (show s3 37 j = σ 37 j from congrFun (hi3_70.1 37 (by omega) (by first | omega | (dsimp only; omega) | (intro h; exact h))) j)]
                                    refine ald hC hK hR (ct_m_far G _ _) rfl (by omega) (by omega) rfl dX10_goes_207 ?_
                                    refine lv_iconst (v := 1) hC.x hC.b dX10_goes_208 (by decide) ?_
                                    refine lv_iadd hC.x hC.b dX10_goes_209 ?_
                                    have pr_110 : ((s3 68 (((σ 37 j).toInt).toNat)) + (1 : Int32)).toInt = ((s3 68 (((σ 37 j).toInt).toNat)).toInt + 1) := addI rfl rfl (by omega) (by omega)
                                    refine ast hC hK hG hR hS (fun _ => ct_m_far G _ _) rfl (by omega) (by omega) rfl dX10_goes_210 (fun s_111 es_112 H locs hR hS => ?_)
                                    have hA2 := bf_a2 hln (by omega) hU hA1 (by show (s3 68 (σ 37 j).toInt.toNat).toInt + 1 < (s3 68 (σ 38 j).toInt.toNat).toInt; omega) (by show _ = (s3 68 (σ 37 j).toInt.toNat).toInt + 1; omega) es_112
                                    refine lv_iinc (v := nI (j + 1)) (lv' := [(7, .int (nI (j + 1))), (0, .ref (G.2.1 35)), (1, .int xa), (2, .int ya), (3, .int hr), (4, .int a4), (5, .int b5), (6, .int (nI n6))]) hC.x hC.b dX10_goes_211 hl (k := 7) rfl (nI_succ _).symm (by decide) rfl (fun ls hl => ?_)
                                    refine lv_goto (tgt := 70) hC.x hC.b dX10_goes_214 (by decide) ?_
                                    exact ih_70 (j + 1) s_111 (by omega) (by first | omega | assumption) (by exact hA2.1) (by exact hA2.2) (by rw [es_112]; exact MRel.up (hi3_70) (by omega) (by first | omega | (dsimp only; omega))) _ _ _ hR hS (lv_sub hl [1, 2, 3, 4, 5, 6, 7, 0] rfl)
                                · skip
                                  refine lv_aload_n hC.x hC.b dX10_goes_130 rfl (lv_at hl 0 rfl) ?_
                                  refine rget hC hK hR (ct_model G _ _) rfl uin_X10 38 (by decide) TF_X10_117 rfl dX10_goes_131 ?_
                                  refine lv_aload_n hC.x hC.b dX10_goes_134 rfl (lv_at hl 0 rfl) ?_
                                  refine rget hC hK hR (ct_model G _ _) rfl uin_X10 1 (by decide) TF_X10_13 rfl dX10_goes_135 ?_
                                  refine lv_iload hC.x hC.b dX10_goes_138 (lv_at hl 7 rfl) ?_
                                  refine ald hC hK hR (ct_m_one G _ _) (nI_T j (by omega)) (by omega) (by omega) (Int.toNat_natCast _) dX10_goes_140 ?_
                                  rw [show s3 37 j = (σ 37 j) from (show s3 37 j = σ 37 j from congrFun (hi3_70.1 37 (by omega) (by first | omega | (dsimp only; omega) | (intro h; exact h))) j)]
                                  refine lv_aload_n hC.x hC.b dX10_goes_141 rfl (lv_at hl 0 rfl) ?_
                                  refine rget hC hK hR (ct_model G _ _) rfl uin_X10 38 (by decide) TF_X10_117 rfl dX10_goes_142 ?_
                                  refine lv_aload_n hC.x hC.b dX10_goes_145 rfl (lv_at hl 0 rfl) ?_
                                  refine rget hC hK hR (ct_model G _ _) rfl uin_X10 2 (by decide) TF_X10_16 rfl dX10_goes_146 ?_
                                  refine lv_iload hC.x hC.b dX10_goes_149 (lv_at hl 7 rfl) ?_
                                  refine ald hC hK hR (ct_m_two G _ _) (nI_T j (by omega)) (by omega) (by omega) (Int.toNat_natCast _) dX10_goes_151 ?_
                                  rw [show s3 38 j = (σ 38 j) from (show s3 38 j = σ 38 j from congrFun (hi3_70.1 38 (by omega) (by first | omega | (dsimp only; omega) | (intro h; exact h))) j)]
                                  refine ald hC hK hR (ct_m_far G _ _) rfl (by omega) (by omega) rfl dX10_goes_152 ?_
                                  refine lv_iconst (v := 1) hC.x hC.b dX10_goes_153 (by decide) ?_
                                  refine lv_iadd hC.x hC.b dX10_goes_154 ?_
                                  have pr_113 : ((s3 68 (((σ 38 j).toInt).toNat)) + (1 : Int32)).toInt = ((s3 68 (((σ 38 j).toInt).toNat)).toInt + 1) := addI rfl rfl (by omega) (by omega)
                                  refine ast hC hK hG hR hS (fun _ => ct_m_far G _ _) rfl (by omega) (by omega) rfl dX10_goes_155 (fun s_114 es_115 H locs hR hS => ?_)
                                  have hA1 : BFI (UM σ hr hq) (xM σ) (yM σ) b5.toInt.toNat (fM s_114) ∧ BFL (UM σ hr hq) (xM σ) (yM σ) (n6 : Int) j (fM s_114) ∧ (s_114 68 (xM σ j)).toInt ≤ (s_114 68 (yM σ j)).toInt + 1 := bf_a1 hln (by omega) hU hi1_70 hi2_70 (by assumption) (by assumption) es_115
                                  have rdx : (s_114 68 (σ 37 j).toInt.toNat).toInt = (s3 68 (σ 38 j).toInt.toNat).toInt + 1 := by rw [es_115, up2_s]; omega
                                  have hbx2 : 0 ≤ (s_114 68 (σ 37 j).toInt.toNat).toInt ∧ (s_114 68 (σ 37 j).toInt.toNat).toInt ≤ 99 := hA1.1.1 _ (by omega)
                                  refine lv_aload_n hC.x hC.b dX10_goes_156 rfl (lv_at hl 0 rfl) ?_
                                  refine rget hC hK hR (ct_model G _ _) rfl uin_X10 38 (by decide) TF_X10_117 rfl dX10_goes_157 ?_
                                  refine lv_aload_n hC.x hC.b dX10_goes_160 rfl (lv_at hl 0 rfl) ?_
                                  refine rget hC hK hR (ct_model G _ _) rfl uin_X10 2 (by decide) TF_X10_16 rfl dX10_goes_161 ?_
                                  refine lv_iload hC.x hC.b dX10_goes_164 (lv_at hl 7 rfl) ?_
                                  refine ald hC hK hR (ct_m_two G _ _) (nI_T j (by omega)) (by omega) (by omega) (Int.toNat_natCast _) dX10_goes_166 ?_
                                  rw [show s_114 38 j = (σ 38 j) from (Eq.trans (show s_114 38 j = s3 38 j from (by rw [es_115]; exact up2_o (by omega))) (show s3 38 j = σ 38 j from congrFun (hi3_70.1 38 (by omega) (by first | omega | (dsimp only; omega) | (intro h; exact h))) j))]
                                  refine ald hC hK hR (ct_m_far G _ _) rfl (by omega) (by omega) rfl dX10_goes_167 ?_
                                  refine lv_aload_n hC.x hC.b dX10_goes_168 rfl (lv_at hl 0 rfl) ?_
                                  refine rget hC hK hR (ct_model G _ _) rfl uin_X10 38 (by decide) TF_X10_117 rfl dX10_goes_169 ?_
                                  refine lv_aload_n hC.x hC.b dX10_goes_172 rfl (lv_at hl 0 rfl) ?_
                                  refine rget hC hK hR (ct_model G _ _) rfl uin_X10 1 (by decide) TF_X10_13 rfl dX10_goes_173 ?_
                                  refine lv_iload hC.x hC.b dX10_goes_176 (lv_at hl 7 rfl) ?_
                                  refine ald hC hK hR (ct_m_one G _ _) (nI_T j (by omega)) (by omega) (by omega) (Int.toNat_natCast _) dX10_goes_178 ?_
                                  rw [show s_114 37 j = (σ 37 j) from (Eq.trans (show s_114 37 j = s3 37 j from (by rw [es_115]; exact up2_o (by omega))) (show s3 37 j = σ 37 j from congrFun (hi3_70.1 37 (by omega) (by first | omega | (dsimp only; omega) | (intro h; exact h))) j))]
                                  refine ald hC hK hR (ct_m_far G _ _) rfl (by omega) (by omega) rfl dX10_goes_179 ?_
                                  rw [show s_114 68 (((σ 37 j).toInt).toNat) = ((s3 68 (((σ 38 j).toInt).toNat)) + (1 : Int32)) from (show s_114 68 (((σ 37 j).toInt).toNat) = ((s3 68 (((σ 38 j).toInt).toNat)) + (1 : Int32)) from (by rw [es_115]; exact up2_s))]
                                  refine lv_iconst (v := 1) hC.x hC.b dX10_goes_180 (by decide) ?_
                                  refine lv_iadd hC.x hC.b dX10_goes_181 ?_
                                  have pr_116 : (((s3 68 (((σ 38 j).toInt).toNat)) + (1 : Int32)) + (1 : Int32)).toInt = (((s3 68 (((σ 38 j).toInt).toNat)) + (1 : Int32)).toInt + 1) := addI rfl rfl (by omega) (by omega)
                                  refine bi_le (tgt := 211) (a := (s_114 68 (((σ 38 j).toInt).toNat)).toInt) (b := (((s3 68 (((σ 38 j).toInt).toNat)) + (1 : Int32)).toInt + 1)) hC.x hC.b rfl pr_116 dX10_goes_182 (by decide) (fun c_117 => ?_) (fun c_117 => ?_)
                                  · skip
                                    have hA2 := bf_a0 hA1 (by show (s_114 68 (σ 38 j).toInt.toNat).toInt ≤ (s_114 68 (σ 37 j).toInt.toNat).toInt + 1; omega)
                                    refine lv_iinc (v := nI (j + 1)) (lv' := [(7, .int (nI (j + 1))), (0, .ref (G.2.1 35)), (1, .int xa), (2, .int ya), (3, .int hr), (4, .int a4), (5, .int b5), (6, .int (nI n6))]) hC.x hC.b dX10_goes_211 hl (k := 7) rfl (nI_succ _).symm (by decide) rfl (fun ls hl => ?_)
                                    refine lv_goto (tgt := 70) hC.x hC.b dX10_goes_214 (by decide) ?_
                                    exact ih_70 (j + 1) s_114 (by omega) (by first | omega | assumption) (by exact hA2.1) (by exact hA2.2) (by rw [es_115]; exact MRel.up (hi3_70) (by omega) (by first | omega | (dsimp only; omega))) _ _ _ hR hS (lv_sub hl [1, 2, 3, 4, 5, 6, 7, 0] rfl)
                                  · skip
                                    refine lv_aload_n hC.x hC.b dX10_goes_185 rfl (lv_at hl 0 rfl) ?_
                                    refine rget hC hK hR (ct_model G _ _) rfl uin_X10 38 (by decide) TF_X10_117 rfl dX10_goes_186 ?_
                                    refine lv_aload_n hC.x hC.b dX10_goes_189 rfl (lv_at hl 0 rfl) ?_
                                    refine rget hC hK hR (ct_model G _ _) rfl uin_X10 2 (by decide) TF_X10_16 rfl dX10_goes_190 ?_
                                    refine lv_iload hC.x hC.b dX10_goes_193 (lv_at hl 7 rfl) ?_
                                    refine ald hC hK hR (ct_m_two G _ _) (nI_T j (by omega)) (by omega) (by omega) (Int.toNat_natCast _) dX10_goes_195 ?_
                                    rw [show s_114 38 j = (σ 38 j) from (Eq.trans (show s_114 38 j = s3 38 j from (by rw [es_115]; exact up2_o (by omega))) (show s3 38 j = σ 38 j from congrFun (hi3_70.1 38 (by omega) (by first | omega | (dsimp only; omega) | (intro h; exact h))) j))]
                                    refine lv_aload_n hC.x hC.b dX10_goes_196 rfl (lv_at hl 0 rfl) ?_
                                    refine rget hC hK hR (ct_model G _ _) rfl uin_X10 38 (by decide) TF_X10_117 rfl dX10_goes_197 ?_
                                    refine lv_aload_n hC.x hC.b dX10_goes_200 rfl (lv_at hl 0 rfl) ?_
                                    refine rget hC hK hR (ct_model G _ _) rfl uin_X10 1 (by decide) TF_X10_13 rfl dX10_goes_201 ?_
                                    refine lv_iload hC.x hC.b dX10_goes_204 (lv_at hl 7 rfl) ?_
                                    refine ald hC hK hR (ct_m_one G _ _) (nI_T j (by omega)) (by omega) (by omega) (Int.toNat_natCast _) dX10_goes_206 ?_
                                    rw [show s_114 37 j = (σ 37 j) from (Eq.trans (show s_114 37 j = s3 37 j from (by rw [es_115]; exact up2_o (by omega))) (show s3 37 j = σ 37 j from congrFun (hi3_70.1 37 (by omega) (by first | omega | (dsimp only; omega) | (intro h; exact h))) j))]
                                    refine ald hC hK hR (ct_m_far G _ _) rfl (by omega) (by omega) rfl dX10_goes_207 ?_
                                    rw [show s_114 68 (((σ 37 j).toInt).toNat) = ((s3 68 (((σ 38 j).toInt).toNat)) + (1 : Int32)) from (show s_114 68 (((σ 37 j).toInt).toNat) = ((s3 68 (((σ 38 j).toInt).toNat)) + (1 : Int32)) from (by rw [es_115]; exact up2_s))]
                                    refine lv_iconst (v := 1) hC.x hC.b dX10_goes_208 (by decide) ?_
                                    refine lv_iadd hC.x hC.b dX10_goes_209 ?_
                                    have pr_118 : (((s3 68 (((σ 38 j).toInt).toNat)) + (1 : Int32)) + (1 : Int32)).toInt = (((s3 68 (((σ 38 j).toInt).toNat)) + (1 : Int32)).toInt + 1) := addI rfl rfl (by omega) (by omega)
                                    refine ast hC hK hG hR hS (fun _ => ct_m_far G _ _) rfl (by omega) (by omega) rfl dX10_goes_210 (fun s_119 es_120 H locs hR hS => ?_)
                                    have hA2 := bf_a2 hln (by omega) hU hA1 (by show (s_114 68 (σ 37 j).toInt.toNat).toInt + 1 < (s_114 68 (σ 38 j).toInt.toNat).toInt; omega) (by show _ = (s_114 68 (σ 37 j).toInt.toNat).toInt + 1; omega) es_120
                                    refine lv_iinc (v := nI (j + 1)) (lv' := [(7, .int (nI (j + 1))), (0, .ref (G.2.1 35)), (1, .int xa), (2, .int ya), (3, .int hr), (4, .int a4), (5, .int b5), (6, .int (nI n6))]) hC.x hC.b dX10_goes_211 hl (k := 7) rfl (nI_succ _).symm (by decide) rfl (fun ls hl => ?_)
                                    refine lv_goto (tgt := 70) hC.x hC.b dX10_goes_214 (by decide) ?_
                                    exact ih_70 (j + 1) s_119 (by omega) (by first | omega | assumption) (by exact hA2.1) (by exact hA2.2) (by rw [es_120]; exact MRel.up ((by rw [es_115]; exact MRel.up (hi3_70) (by omega) (by first | omega | (dsimp only; omega)))) (by omega) (by first | omega | (dsimp only; omega))) _ _ _ hR hS (lv_sub hl [1, 2, 3, 4, 5, 6, 7, 0] rfl)
                              · skip
                                refine lv_goto (tgt := 211) hC.x hC.b dX10_goes_98 (by decide) ?_
                                have rd_121 : (s3 36 j).toInt = (σ 36 j).toInt := congrArg Int32.toInt (show s3 36 j = σ 36 j from congrFun (hi3_70.1 36 (by omega) (by first | omega | (dsimp only; omega) | (intro h; exact h))) j)
                                have hA2 := bf_sk hi1_70 hi2_70 (fun h => by have h1 := h.1; have h2 := h.2.1; have h3 := h.2.2; rw [← toldM_g (q := j) (hr := hr) (hq := hq) hi3_70] at h3; omega)
                                refine lv_iinc (v := nI (j + 1)) (lv' := [(7, .int (nI (j + 1))), (0, .ref (G.2.1 35)), (1, .int xa), (2, .int ya), (3, .int hr), (4, .int a4), (5, .int b5), (6, .int (nI n6))]) hC.x hC.b dX10_goes_211 hl (k := 7) rfl (nI_succ _).symm (by decide) rfl (fun ls hl => ?_)
                                refine lv_goto (tgt := 70) hC.x hC.b dX10_goes_214 (by decide) ?_
                                exact ih_70 (j + 1) s3 (by omega) (by first | omega | assumption) (by exact hA2.1) (by exact hA2.2) hi3_70 _ _ _ hR hS (lv_sub hl [1, 2, 3, 4, 5, 6, 7, 0] rfl)
                            · skip
                              refine bz_eq (tgt := 211) (a := 0) (b := 0) hC.x hC.b rfl rfl dX10_goes_83 (by decide) (fun _ => ?_) (fun c_122 => absurd c_122 (by decide))
                              have rd_123 : (s3 36 j).toInt = (σ 36 j).toInt := congrArg Int32.toInt (show s3 36 j = σ 36 j from congrFun (hi3_70.1 36 (by omega) (by first | omega | (dsimp only; omega) | (intro h; exact h))) j)
                              have hA2 := bf_sk hi1_70 hi2_70 (fun h => by have h1 := h.1; have h2 := h.2.1; have h3 := h.2.2; rw [← toldM_g (q := j) (hr := hr) (hq := hq) hi3_70] at h3; omega)
                              refine lv_iinc (v := nI (j + 1)) (lv' := [(7, .int (nI (j + 1))), (0, .ref (G.2.1 35)), (1, .int xa), (2, .int ya), (3, .int hr), (4, .int a4), (5, .int b5), (6, .int (nI n6))]) hC.x hC.b dX10_goes_211 hl (k := 7) rfl (nI_succ _).symm (by decide) rfl (fun ls hl => ?_)
                              refine lv_goto (tgt := 70) hC.x hC.b dX10_goes_214 (by decide) ?_
                              exact ih_70 (j + 1) s3 (by omega) (by first | omega | assumption) (by exact hA2.1) (by exact hA2.2) hi3_70 _ _ _ hR hS (lv_sub hl [1, 2, 3, 4, 5, 6, 7, 0] rfl)
                      exact L_70 _ 0 s2 (Nat.lt_succ_self _) (by first | omega | assumption) (by exact hi1_60) (by exact hi2_60) hi3_60 _ _ _ hR hS (lv_sub hl [1, 2, 3, 4, 5, 6, 7, 0] rfl)
                exact L_60 _ 0 s_4 (Nat.lt_succ_self _) (by first | omega | assumption) (by exact (bf_st (σ := σ) (hr := hr) (hq := hq) (b := b5.toInt.toNat) (s1 := s1) (by omega) (fun k hk => hi1_27 k (by omega)) es_5 hln).1) (by exact (bf_st (σ := σ) (hr := hr) (hq := hq) (b := b5.toInt.toNat) (s1 := s1) (by omega) (fun k hk => hi1_27 k (by omega)) es_5 hln).2) (by rw [es_5]; exact MRel.up (hi2_27) (by omega) (by first | omega | (dsimp only; omega))) _ _ _ hR hS (lv_sub hl [1, 2, 3, 4, 5, 6, 0] rfl)
              · skip
                refine lv_aload_n hC.x hC.b dX10_goes_34 rfl (lv_at hl 0 rfl) ?_
                refine rget hC hK hR (ct_model G _ _) rfl uin_X10 38 (by decide) TF_X10_117 rfl dX10_goes_35 ?_
                refine lv_iload hC.x hC.b dX10_goes_38 (lv_at hl 6 rfl) ?_
                refine lv_bipush (v := 99) hC.x hC.b dX10_goes_40 (by decide) ?_
                refine ast hC hK hG hR hS (fun _ => ct_m_far G _ _) (nI_T n (by omega)) (by omega) (by omega) (Int.toNat_natCast _) dX10_goes_42 (fun s_124 es_125 H locs hR hS => ?_)
                refine lv_iinc (v := nI (n + 1)) (lv' := [(6, .int (nI (n + 1))), (0, .ref (G.2.1 35)), (1, .int xa), (2, .int ya), (3, .int hr), (4, .int a4), (5, .int b5)]) hC.x hC.b dX10_goes_43 hl (k := 6) rfl (nI_succ _).symm (by decide) rfl (fun ls hl => ?_)
                refine lv_goto (tgt := 27) hC.x hC.b dX10_goes_46 (by decide) ?_
                exact ih_27 (n + 1) s_124 (by omega) (by first | omega | assumption) (by subst es_125; intro k hk; by_cases e9 : k = n; (subst e9; rw [up2_s]; decide); (rw [up2_n e9]; exact hi1_27 k (by omega))) (by rw [es_125]; exact MRel.up (hi2_27) (by omega) (by first | omega | (dsimp only; omega))) _ _ _ hR hS (lv_sub hl [1, 2, 3, 4, 5, 6, 0] rfl)
          exact L_27 _ 0 σ (Nat.lt_succ_self _) (by first | omega | assumption) (by intro k hk; omega) MRel.rf _ _ _ hR hS (lv_sub hl [1, 2, 3, 4, 5, 6, 0] rfl)
      exact L_24 _ ya xa (Nat.lt_succ_self _) (by first | omega | assumption) (by first | omega | assumption) _ _ _ hR hS (lv_sub hl [2, 3, 4, 5, 1, 0] rfl)
    · skip
      refine lv_iload_n hC.x hC.b dX10_goes_17 rfl (lv_at hl 3 rfl) ?_
      refine lv_goto (tgt := 22) hC.x hC.b dX10_goes_18 (by decide) ?_
      refine lv_istore (lv' := [(5, .int ya), (4, .int ya), (0, .ref (G.2.1 35)), (1, .int xa), (2, .int ya), (3, .int hr)]) hC.x hC.b dX10_goes_22 hl (by decide) rfl (fun ls hl => ?_)
      have L_24 : ∀ (F : Nat) (a4 : Int32) (b5 : Int32), 0 < F → (0 ≤ a4.toInt ∧ a4.toInt < 24) → (0 ≤ b5.toInt ∧ b5.toInt < 24) → ∀ (H : Heap) (locs : List Loc) (ls : Array Slot), RepH G σ τ H → va_S A s.heap H locs → lv_has ls 9 [(0, .ref (G.2.1 35)), (1, .int xa), (2, .int ya), (3, .int hr), (4, .int a4), (5, .int b5)] → W p l e (rmD 2) s m args below meth c H locs 0 0 (MQ below (va_Qi (po_X10_goes σ τ xa xq ya yq hr hq) (BU G) A) args s 0 0 A) (F0 m 24 ls []) := by
        intro F
        induction F with
        | zero => intro a4 b5 hm; exact absurd hm (Nat.not_lt_zero _)
        | succ F ih_24 =>
          intro a4 b5 hm_24 hi0_24 hi1_24 H locs ls hR hS hl
          refine lv_iconst (v := 0) hC.x hC.b dX10_goes_24 (by decide) ?_
          refine lv_istore (lv' := [(6, .int (0 : Int32)), (0, .ref (G.2.1 35)), (1, .int xa), (2, .int ya), (3, .int hr), (4, .int a4), (5, .int b5)]) hC.x hC.b dX10_goes_25 hl (by decide) rfl (fun ls hl => ?_)
          have L_27 : ∀ (F : Nat) (n : Nat) (s1 : SI), (24 - n) < F → (n ≤ 24) → (∀ k, k < n → (s1 68 k).toInt = 99) → (MRel (fun k => k = 68 ∨ k = 69) (fun j => j = 41 ∨ j = 43) σ s1) → ∀ (H : Heap) (locs : List Loc) (ls : Array Slot), RepH G s1 τ H → va_S A s.heap H locs → lv_has ls 9 [(0, .ref (G.2.1 35)), (1, .int xa), (2, .int ya), (3, .int hr), (4, .int a4), (5, .int b5), (6, .int (nI n))] → W p l e (rmD 2) s m args below meth c H locs 0 0 (MQ below (va_Qi (po_X10_goes σ τ xa xq ya yq hr hq) (BU G) A) args s 0 0 A) (F0 m 27 ls []) := by
            intro F
            induction F with
            | zero => intro n s1 hm; exact absurd hm (Nat.not_lt_zero _)
            | succ F ih_27 =>
              intro n s1 hm_27 hi0_27 hi1_27 hi2_27 H locs ls hR hS hl
              have hnI := nI_T n (by omega)
              refine lv_iload hC.x hC.b dX10_goes_27 (lv_at hl 6 rfl) ?_
              refine lv_bipush (v := 24) hC.x hC.b dX10_goes_29 (by decide) ?_
              refine bi_ge (tgt := 49) (a := (n : Int)) (b := 24) hC.x hC.b (nI_T n (by omega)) rfl dX10_goes_31 (by decide) (fun c_126 => ?_) (fun c_126 => ?_)
              · skip
                refine lv_aload_n hC.x hC.b dX10_goes_49 rfl (lv_at hl 0 rfl) ?_
                refine rget hC hK hR (ct_model G _ _) rfl uin_X10 38 (by decide) TF_X10_117 rfl dX10_goes_50 ?_
                refine lv_iload hC.x hC.b dX10_goes_53 (lv_at hl 5 rfl) ?_
                refine lv_iconst (v := 0) hC.x hC.b dX10_goes_55 (by decide) ?_
                refine ast hC hK hG hR hS (fun _ => ct_m_far G _ _) rfl (by omega) (by omega) rfl dX10_goes_56 (fun s_127 es_128 H locs hR hS => ?_)
                refine lv_iconst (v := 0) hC.x hC.b dX10_goes_57 (by decide) ?_
                refine lv_istore (lv' := [(6, .int (0 : Int32)), (0, .ref (G.2.1 35)), (1, .int xa), (2, .int ya), (3, .int hr), (4, .int a4), (5, .int b5)]) hC.x hC.b dX10_goes_58 hl (by decide) rfl (fun ls hl => ?_)
                have L_60 : ∀ (F : Nat) (n6 : Nat) (s2 : SI), (24 - n6) < F → (n6 ≤ 24) → (BFI (UM σ hr hq) (xM σ) (yM σ) b5.toInt.toNat (fM s2)) → (BFL (UM σ hr hq) (xM σ) (yM σ) (n6 : Int) 0 (fM s2)) → (MRel (fun k => k = 68 ∨ k = 69) (fun j => j = 41 ∨ j = 43) σ s2) → ∀ (H : Heap) (locs : List Loc) (ls : Array Slot), RepH G s2 τ H → va_S A s.heap H locs → lv_has ls 9 [(0, .ref (G.2.1 35)), (1, .int xa), (2, .int ya), (3, .int hr), (4, .int a4), (5, .int b5), (6, .int (nI n6))] → W p l e (rmD 2) s m args below meth c H locs 0 0 (MQ below (va_Qi (po_X10_goes σ τ xa xq ya yq hr hq) (BU G) A) args s 0 0 A) (F0 m 60 ls []) := by
                  intro F
                  induction F with
                  | zero => intro n6 s2 hm; exact absurd hm (Nat.not_lt_zero _)
                  | succ F ih_60 =>
                    intro n6 s2 hm_60 hi0_60 hi1_60 hi2_60 hi3_60 H locs ls hR hS hl
                    have hnI6 := nI_T n6 (by omega)
                    refine lv_iload hC.x hC.b dX10_goes_60 (lv_at hl 6 rfl) ?_
                    refine lv_bipush (v := 24) hC.x hC.b dX10_goes_62 (by decide) ?_
                    refine bi_ge (tgt := 223) (a := (n6 : Int)) (b := 24) hC.x hC.b (nI_T n6 (by omega)) rfl dX10_goes_64 (by decide) (fun c_129 => ?_) (fun c_129 => ?_)
                    · skip
                      refine lv_aload_n hC.x hC.b dX10_goes_223 rfl (lv_at hl 0 rfl) ?_
                      refine lv_iconst (v := 0) hC.x hC.b dX10_goes_224 (by decide) ?_
                      refine rputi hC hK hG hR hS (ct_model G _ _) rfl uin_X10 tyX10 tyX10_ok nmX10 41 (by decide) TF_X10_155 rfl (Or.inl rfl) (Nat.le_of_ble_eq_true rfl) rfl (ct_model G _ _) dX10_goes_225 (fun s_131 es_130 H locs hR hS => ?_)
                      refine lv_aload_n hC.x hC.b dX10_goes_228 rfl (lv_at hl 0 rfl) ?_
                      refine lv_iconst (v := 0) hC.x hC.b dX10_goes_229 (by decide) ?_
                      refine rputi hC hK hG hR hS (ct_model G _ _) rfl uin_X10 tyX10 tyX10_ok nmX10 43 (by decide) TF_X10_158 rfl (Or.inl rfl) (Nat.le_of_ble_eq_true rfl) rfl (ct_model G _ _) dX10_goes_230 (fun s_133 es_132 H locs hR hS => ?_)
                      refine lv_aload_n hC.x hC.b dX10_goes_233 rfl (lv_at hl 0 rfl) ?_
                      refine rget hC hK hR (ct_model G _ _) rfl uin_X10 38 (by decide) TF_X10_117 rfl dX10_goes_234 ?_
                      refine lv_iload hC.x hC.b dX10_goes_237 (lv_at hl 4 rfl) ?_
                      refine ald hC hK hR (ct_m_far G _ _) rfl (by omega) (by omega) rfl dX10_goes_239 ?_
                      rw [show s_133 68 a4.toInt.toNat = (s2 68 a4.toInt.toNat) from (Eq.trans (show s_133 68 a4.toInt.toNat = s_131 68 a4.toInt.toNat from (by rw [es_132]; exact up2_o (by omega))) (show s_131 68 a4.toInt.toNat = s2 68 a4.toInt.toNat from (by rw [es_130]; exact up2_o (by omega))))]
                      refine lv_bipush (v := 99) hC.x hC.b dX10_goes_240 (by decide) ?_
                      refine bi_lt (tgt := 247) (a := (s2 68 a4.toInt.toNat).toInt) (b := 99) hC.x hC.b rfl rfl dX10_goes_242 (by decide) (fun c_134 => ?_) (fun c_134 => ?_)
                      · skip
                        have rd_135 : (s_133 35 41).toInt = 0 := (congrArg Int32.toInt (Eq.trans (show s_133 35 41 = s_131 35 41 from (by rw [es_132]; exact up2_n (by omega))) (show s_131 35 41 = (0 : Int32) from (by rw [es_130]; exact up2_s)))).trans (by decide)
                        have rd_136 : (s_133 68 a4.toInt.toNat).toInt = (s2 68 a4.toInt.toNat).toInt := congrArg Int32.toInt (Eq.trans (show s_133 68 a4.toInt.toNat = s_131 68 a4.toInt.toNat from (by rw [es_132]; exact up2_o (by omega))) (show s_131 68 a4.toInt.toNat = s2 68 a4.toInt.toNat from (by rw [es_130]; exact up2_o (by omega))))
                        have e24 : (n6 : Int) = 24 := by omega
                        have hL24 : BFL (UM σ hr hq) (xM σ) (yM σ) 24 0 (fM s2) := e24 ▸ hi2_60
                        have h23 : (s2 68 a4.toInt.toNat).toInt ≤ 23 := bf_23 hln.xy hi1_60 hL24 (by omega) (by show (s2 68 a4.toInt.toNat).toInt < 99; omega)
                        refine lv_iload hC.x hC.b dX10_goes_247 (lv_at hl 4 rfl) ?_
                        refine lv_istore (lv' := [(6, .int a4), (0, .ref (G.2.1 35)), (1, .int xa), (2, .int ya), (3, .int hr), (4, .int a4), (5, .int b5)]) hC.x hC.b dX10_goes_249 hl (by decide) rfl (fun ls hl => ?_)
                        have L_251 : ∀ (F : Nat) (h6 : Int32) (s4 : SI), ((s4 68 h6.toInt.toNat).toInt.toNat) < F → (0 ≤ h6.toInt ∧ h6.toInt < 24) → (BFI (UM σ hr hq) (xM σ) (yM σ) b5.toInt.toNat (fM s4)) → (BFL (UM σ hr hq) (xM σ) (yM σ) 24 0 (fM s4)) → (0 ≤ (s4 35 41).toInt) → ((s4 35 41).toInt + (s4 68 h6.toInt.toNat).toInt ≤ 23) → (MRel (fun k => k = 68 ∨ k = 69) (fun j => j = 41 ∨ j = 43) σ s4) → ∀ (H : Heap) (locs : List Loc) (ls : Array Slot), RepH G s4 τ H → va_S A s.heap H locs → lv_has ls 9 [(0, .ref (G.2.1 35)), (1, .int xa), (2, .int ya), (3, .int hr), (5, .int b5), (6, .int h6)] → W p l e (rmD 2) s m args below meth c H locs 0 0 (MQ below (va_Qi (po_X10_goes σ τ xa xq ya yq hr hq) (BU G) A) args s 0 0 A) (F0 m 251 ls []) := by
                          intro F
                          induction F with
                          | zero => intro h6 s4 hm; exact absurd hm (Nat.not_lt_zero _)
                          | succ F ih_251 =>
                            intro h6 s4 hm_251 hi0_251 hi1_251 hi2_251 hi3_251 hi4_251 hi5_251 H locs ls hR hS hl
                            refine lv_iload hC.x hC.b dX10_goes_251 (lv_at hl 5 rfl) ?_
                            refine lv_iload hC.x hC.b dX10_goes_253 (lv_at hl 4 rfl) ?_
                            refine bi_eq (tgt := 398) (a := h6.toInt) (b := b5.toInt) hC.x hC.b rfl rfl dX10_goes_255 (by decide) (fun c_137 => ?_) (fun c_137 => ?_)
                            · skip
                              have hb6 : 0 ≤ (s4 68 h6.toInt.toNat).toInt ∧ (s4 68 h6.toInt.toNat).toInt ≤ 99 := hi1_251.1 _ (by omega)
                              refine lv_iload_n hC.x hC.b dX10_goes_398 rfl (lv_at hl 1 rfl) ?_
                              refine lv_iload_n hC.x hC.b dX10_goes_399 rfl (lv_at hl 2 rfl) ?_
                              refine bi_gt (tgt := 405) (a := xa.toInt) (b := ya.toInt) hC.x hC.b rfl rfl dX10_goes_400 (by decide) (fun c_138 => ?_) (fun c_138 => ?_)
                              · skip
                                refine lv_aload_n hC.x hC.b dX10_goes_405 rfl (lv_at hl 0 rfl) ?_
                                refine lv_aload_n hC.x hC.b dX10_goes_406 rfl (lv_at hl 0 rfl) ?_
                                refine rget hC hK hR (ct_model G _ _) rfl uin_X10 43 (by decide) TF_X10_158 rfl dX10_goes_407 ?_
                                refine lv_ineg hC.x hC.b dX10_goes_410 ?_
                                refine rputi hC hK hG hR hS (ct_model G _ _) rfl uin_X10 tyX10 tyX10_ok nmX10 43 (by decide) TF_X10_158 rfl (Or.inl rfl) (Nat.le_of_ble_eq_true rfl) rfl (ct_model G _ _) dX10_goes_411 (fun s_140 es_139 H locs hR hS => ?_)
                                have rd_141 : (s_140 35 41).toInt = (s4 35 41).toInt := congrArg Int32.toInt (show s_140 35 41 = s4 35 41 from (by rw [es_139]; exact up2_n (by omega)))
                                refine lv_iconst (v := 0) hC.x hC.b dX10_goes_414 (by decide) ?_
                                refine lv_istore (lv' := [(7, .int (0 : Int32)), (0, .ref (G.2.1 35)), (1, .int xa), (2, .int ya), (3, .int hr), (5, .int b5), (6, .int h6)]) hC.x hC.b dX10_goes_415 hl (by decide) rfl (fun ls hl => ?_)
                                have L_417 : ∀ (F : Nat) (n7 : Nat) (s5 : SI), (24 - n7) < F → (n7 ≤ 24) → (0 ≤ (s5 35 41).toInt ∧ (s5 35 41).toInt ≤ 23) → (MRel (fun k => k = 68 ∨ k = 69) (fun j => j = 41 ∨ j = 43) σ s5) → ∀ (H : Heap) (locs : List Loc) (ls : Array Slot), RepH G s5 τ H → va_S A s.heap H locs → lv_has ls 9 [(0, .ref (G.2.1 35)), (7, .int (nI n7))] → W p l e (rmD 2) s m args below meth c H locs 0 0 (MQ below (va_Qi (po_X10_goes σ τ xa xq ya yq hr hq) (BU G) A) args s 0 0 A) (F0 m 417 ls []) := by
                                  intro F
                                  induction F with
                                  | zero => intro n7 s5 hm; exact absurd hm (Nat.not_lt_zero _)
                                  | succ F ih_417 =>
                                    intro n7 s5 hm_417 hi0_417 hi1_417 hi2_417 H locs ls hR hS hl
                                    have hnI := nI_T n7 (by omega)
                                    refine lv_iconst (v := 2) hC.x hC.b dX10_goes_417 (by decide) ?_
                                    refine lv_iload hC.x hC.b dX10_goes_418 (lv_at hl 1 rfl) ?_
                                    refine lv_imul hC.x hC.b dX10_goes_420 ?_
                                    have pr_142 : ((2 : Int32) * (nI n7)).toInt = (2 * (n7 : Int)) := mulI rfl (nI_T n7 (by omega)) (by omega) (by omega)
                                    refine lv_aload_n hC.x hC.b dX10_goes_421 rfl (lv_at hl 0 rfl) ?_
                                    refine rget hC hK hR (ct_model G _ _) rfl uin_X10 41 (by decide) TF_X10_155 rfl dX10_goes_422 ?_
                                    refine lv_iconst (v := 1) hC.x hC.b dX10_goes_425 (by decide) ?_
                                    refine lv_isub hC.x hC.b dX10_goes_426 ?_
                                    have pr_143 : ((s5 35 41) - (1 : Int32)).toInt = ((s5 35 41).toInt - 1) := subI rfl rfl (by omega) (by omega)
                                    refine bi_ge (tgt := 482) (a := (2 * (n7 : Int))) (b := ((s5 35 41).toInt - 1)) hC.x hC.b pr_142 pr_143 dX10_goes_427 (by decide) (fun c_144 => ?_) (fun c_144 => ?_)
                                    · skip
                                      refine lv_iconst (v := 1) hC.x hC.b dX10_goes_482 (by decide) ?_
                                      exact retz hC hK hR hS (Or.inr rfl) (by first | exact Or.inl (⟨by first | rfl | omega, by exact hi2_417, by first | omega | (dsimp only; omega)⟩) | exact False.elim (by omega)) dX10_goes_483
                                    · skip
                                      refine lv_aload_n hC.x hC.b dX10_goes_430 rfl (lv_at hl 0 rfl) ?_
                                      refine rget hC hK hR (ct_model G _ _) rfl uin_X10 39 (by decide) TF_X10_120 rfl dX10_goes_431 ?_
                                      refine lv_iload hC.x hC.b dX10_goes_434 (lv_at hl 1 rfl) ?_
                                      refine ald hC hK hR (ct_m_going G _ _) (nI_T n7 (by omega)) (by omega) (by omega) (Int.toNat_natCast _) dX10_goes_436 ?_
                                      refine lv_istore (lv' := [(8, .int (s5 69 n7)), (0, .ref (G.2.1 35)), (7, .int (nI n7))]) hC.x hC.b dX10_goes_437 hl (by decide) rfl (fun ls hl => ?_)
                                      refine lv_aload_n hC.x hC.b dX10_goes_439 rfl (lv_at hl 1 rfl) ?_
                                      refine rget hC hK hR (ct_model G _ _) rfl uin_X10 39 (by decide) TF_X10_120 rfl dX10_goes_440 ?_
                                      refine lv_iload hC.x hC.b dX10_goes_443 (lv_at hl 2 rfl) ?_
                                      refine lv_aload_n hC.x hC.b dX10_goes_445 rfl (lv_at hl 1 rfl) ?_
                                      refine rget hC hK hR (ct_model G _ _) rfl uin_X10 39 (by decide) TF_X10_120 rfl dX10_goes_446 ?_
                                      refine lv_aload_n hC.x hC.b dX10_goes_449 rfl (lv_at hl 1 rfl) ?_
                                      refine rget hC hK hR (ct_model G _ _) rfl uin_X10 41 (by decide) TF_X10_155 rfl dX10_goes_450 ?_
                                      refine lv_iconst (v := 1) hC.x hC.b dX10_goes_453 (by decide) ?_
                                      refine lv_isub hC.x hC.b dX10_goes_454 ?_
                                      have pr_145 : ((s5 35 41) - (1 : Int32)).toInt = ((s5 35 41).toInt - 1) := subI rfl rfl (by omega) (by omega)
                                      refine lv_iload hC.x hC.b dX10_goes_455 (lv_at hl 2 rfl) ?_
                                      refine lv_isub hC.x hC.b dX10_goes_457 ?_
                                      have pr_146 : (((s5 35 41) - (1 : Int32)) - (nI n7)).toInt = (((s5 35 41).toInt - 1) - (n7 : Int)) := subI pr_145 (nI_T n7 (by omega)) (by omega) (by omega)
                                      refine ald hC hK hR (ct_m_going G _ _) pr_146 (by omega) (by omega) rfl dX10_goes_458 ?_
                                      refine ast hC hK hG hR hS (fun _ => ct_m_going G _ _) (nI_T n7 (by omega)) (by omega) (by omega) (Int.toNat_natCast _) dX10_goes_459 (fun s_147 es_148 H locs hR hS => ?_)
                                      refine lv_aload_n hC.x hC.b dX10_goes_460 rfl (lv_at hl 1 rfl) ?_
                                      refine rget hC hK hR (ct_model G _ _) rfl uin_X10 39 (by decide) TF_X10_120 rfl dX10_goes_461 ?_
                                      refine lv_aload_n hC.x hC.b dX10_goes_464 rfl (lv_at hl 1 rfl) ?_
                                      refine rget hC hK hR (ct_model G _ _) rfl uin_X10 41 (by decide) TF_X10_155 rfl dX10_goes_465 ?_
                                      rw [show s_147 35 41 = (s5 35 41) from (show s_147 35 41 = s5 35 41 from (by rw [es_148]; exact up2_o (by omega)))]
                                      refine lv_iconst (v := 1) hC.x hC.b dX10_goes_468 (by decide) ?_
                                      refine lv_isub hC.x hC.b dX10_goes_469 ?_
                                      have pr_149 : ((s5 35 41) - (1 : Int32)).toInt = ((s5 35 41).toInt - 1) := subI rfl rfl (by omega) (by omega)
                                      refine lv_iload hC.x hC.b dX10_goes_470 (lv_at hl 2 rfl) ?_
                                      refine lv_isub hC.x hC.b dX10_goes_472 ?_
                                      have pr_150 : (((s5 35 41) - (1 : Int32)) - (nI n7)).toInt = (((s5 35 41).toInt - 1) - (n7 : Int)) := subI pr_149 (nI_T n7 (by omega)) (by omega) (by omega)
                                      refine lv_iload hC.x hC.b dX10_goes_473 (lv_at hl 0 rfl) ?_
                                      refine ast hC hK hG hR hS (fun _ => ct_m_going G _ _) pr_150 (by omega) (by omega) rfl dX10_goes_475 (fun s_151 es_152 H locs hR hS => ?_)
                                      have rd_153 : (s_151 35 41).toInt = (s5 35 41).toInt := congrArg Int32.toInt (Eq.trans (show s_151 35 41 = s_147 35 41 from (by rw [es_152]; exact up2_o (by omega))) (show s_147 35 41 = s5 35 41 from (by rw [es_148]; exact up2_o (by omega))))
                                      refine lv_iinc (v := nI (n7 + 1)) (lv' := [(7, .int (nI (n7 + 1))), (8, .int (s5 69 n7)), (0, .ref (G.2.1 35))]) hC.x hC.b dX10_goes_476 hl (k := 2) rfl (nI_succ _).symm (by decide) rfl (fun ls hl => ?_)
                                      refine lv_goto (tgt := 417) hC.x hC.b dX10_goes_479 (by decide) ?_
                                      exact ih_417 (n7 + 1) s_151 (by omega) (by first | omega | assumption) (by first | omega | assumption) (by rw [es_152]; exact MRel.up ((by rw [es_148]; exact MRel.up (hi2_417) (by omega) (by first | omega | (dsimp only; omega)))) (by omega) (by first | omega | (dsimp only; omega))) _ _ _ hR hS (lv_sub hl [2, 0] rfl)
                                exact L_417 _ 0 s_140 (Nat.lt_succ_self _) (by first | omega | assumption) (by first | omega | assumption) (by rw [es_139]; exact MRel.upm (hi5_251) (by first | omega | (dsimp only; omega))) _ _ _ hR hS (lv_sub hl [1, 0] rfl)
                              · skip
                                refine lv_iconst (v := 1) hC.x hC.b dX10_goes_403 (by decide) ?_
                                exact retz hC hK hR hS (Or.inr rfl) (by first | exact Or.inl (⟨by first | rfl | omega, by exact hi5_251, by first | omega | (dsimp only; omega)⟩) | exact False.elim (by omega)) dX10_goes_404
                            · skip
                              refine lv_iconst (v := 0) hC.x hC.b dX10_goes_258 (by decide) ?_
                              refine lv_istore (lv' := [(7, .int (0 : Int32)), (0, .ref (G.2.1 35)), (1, .int xa), (2, .int ya), (3, .int hr), (5, .int b5), (6, .int h6)]) hC.x hC.b dX10_goes_259 hl (by decide) rfl (fun ls hl => ?_)
                              have L_261 : ∀ (F : Nat) (j : Nat), (24 - j) < F → (∃ w0, j ≤ w0 ∧ w0 < 24 ∧ GdM s4 hr hq h6 w0) → ∀ (H : Heap) (locs : List Loc) (ls : Array Slot), RepH G s4 τ H → va_S A s.heap H locs → lv_has ls 9 [(0, .ref (G.2.1 35)), (1, .int xa), (2, .int ya), (3, .int hr), (5, .int b5), (6, .int h6), (7, .int (nI j))] → W p l e (rmD 2) s m args below meth c H locs 0 0 (MQ below (va_Qi (po_X10_goes σ τ xa xq ya yq hr hq) (BU G) A) args s 0 0 A) (F0 m 261 ls []) := by
                                intro F
                                induction F with
                                | zero => intro j hm; exact absurd hm (Nat.not_lt_zero _)
                                | succ F ih_261 =>
                                  intro j hm_261 hi0_261 H locs ls hR hS hl
                                  obtain ⟨lw, lw1, lw2, lw3⟩ := hi0_261
                                  have hnI := nI_T j (by omega)
                                  refine lv_aload_n hC.x hC.b dX10_goes_261 rfl (lv_at hl 0 rfl) ?_
                                  refine lv_iload hC.x hC.b dX10_goes_262 (lv_at hl 6 rfl) ?_
                                  have av_154 : (nI j).toInt = (j : Int) := (nI_T j (by omega))
                                  refine goip (runV (As := [.int (nI j)]) (rest := []) hC hK hR hl.1 (c_X10_isLink l hG s4 τ (nI j) j (by first | rfl | (rw [show (nI j).toInt = (j : Int) from (nI_T j (by omega))]; done) | (rw [show (nI j).toInt = (j : Int) from (nI_T j (by omega))]; exact (Int.toNat_natCast _))) ) (call_b hC.ts TC_X10_isLink TN_X10 TM_X10_148 hd_X10_isLink ⟨Nat.le_of_ble_eq_true rfl, Nat.le_of_ble_eq_true rfl⟩) TI_X10_isLink TS_X10_isLink (ct_model G _ _) rfl rfl rfl (Nat.le_of_ble_eq_true rfl) dX10_goes_264 ⟨Nat.le_of_ble_eq_true rfl, Nat.le_of_ble_eq_true rfl⟩) hS (fun v_155 H locs w_156 hR hS => ?_)
                                  rcases w_156 with ⟨rfl, f_157, f_158⟩ | ⟨rfl, f_159⟩
                                  · skip
                                    refine bz_eq (tgt := 319) (a := 1) (b := 0) hC.x hC.b rfl rfl dX10_goes_267 (by decide) (fun c_160 => absurd c_160 (by decide)) (fun _ => ?_)
                                    refine lv_aload_n hC.x hC.b dX10_goes_270 rfl (lv_at hl 0 rfl) ?_
                                    refine lv_iload hC.x hC.b dX10_goes_271 (lv_at hl 6 rfl) ?_
                                    refine lv_iload_n hC.x hC.b dX10_goes_273 rfl (lv_at hl 3 rfl) ?_
                                    have av_161 : (nI j).toInt = (j : Int) := (nI_T j (by omega))
                                    have rd_162 : (s4 35 29).toInt = (σ 35 29).toInt := congrArg Int32.toInt (show s4 35 29 = σ 35 29 from hi5_251.2 29 (by first | omega | (dsimp only; omega)))
                                    refine goip (runV (As := [.int (nI j), .int hr]) (rest := []) hC hK hR hl.1 (c_X10_told l hG s4 τ (nI j) j (by first | rfl | (rw [show (nI j).toInt = (j : Int) from (nI_T j (by omega))]; done) | (rw [show (nI j).toInt = (j : Int) from (nI_T j (by omega))]; exact (Int.toNat_natCast _))) hr hq (by first | rfl | (rw [show hr.toInt = hr.toInt from rfl]; done) | (rw [show hr.toInt = hr.toInt from rfl]; exact hp_hq)) (by first | assumption | omega) (by omega)) (call_b hC.ts TC_X10_told TN_X10 TM_X10_152 hd_X10_told ⟨Nat.le_of_ble_eq_true rfl, Nat.le_of_ble_eq_true rfl⟩) TI_X10_told TS_X10_told (ct_model G _ _) rfl rfl rfl (Nat.le_of_ble_eq_true rfl) dX10_goes_274 ⟨Nat.le_of_ble_eq_true rfl, Nat.le_of_ble_eq_true rfl⟩) hS (fun v_163 H locs w_164 hR hS => ?_)
                                    subst w_164
                                    refine lv_ldc hC.x hC.b hC.ow (hC.ts _ TK_X10_151) dX10_goes_277 ?_
                                    refine bi_eq (tgt := 319) (a := (toldM s4 j hr hq).toInt) (b := 1000000) hC.x hC.b rfl rfl dX10_goes_279 (by decide) (fun c_165 => ?_) (fun c_165 => ?_)
                                    · skip
                                      refine lv_iinc (v := nI (j + 1)) (lv' := [(7, .int (nI (j + 1))), (0, .ref (G.2.1 35)), (1, .int xa), (2, .int ya), (3, .int hr), (5, .int b5), (6, .int h6)]) hC.x hC.b dX10_goes_319 hl (k := 6) rfl (nI_succ _).symm (by decide) rfl (fun ls hl => ?_)
                                      refine lv_goto (tgt := 261) hC.x hC.b dX10_goes_322 (by decide) ?_
                                      exact ih_261 (j + 1) (by omega) (by refine ⟨lw, ?_, lw2, lw3⟩; rcases Nat.eq_or_lt_of_le lw1 with e9 | e9; (exfalso; subst e9; obtain ⟨g1, g2, g3, g4, g5⟩ := lw3; omega); omega) _ _ _ hR hS (lv_sub hl [1, 2, 3, 4, 5, 6, 0] rfl)
                                    · skip
                                      refine lv_aload_n hC.x hC.b dX10_goes_282 rfl (lv_at hl 0 rfl) ?_
                                      refine lv_iload hC.x hC.b dX10_goes_283 (lv_at hl 6 rfl) ?_
                                      refine lv_iload hC.x hC.b dX10_goes_285 (lv_at hl 5 rfl) ?_
                                      have av_166 : (nI j).toInt = (j : Int) := (nI_T j (by omega))
                                      refine goip (runV (As := [.int (nI j), .int h6]) (rest := []) hC hK hR hl.1 (c_X10_other l hG s4 τ (nI j) j (by first | rfl | (rw [show (nI j).toInt = (j : Int) from (nI_T j (by omega))]; done) | (rw [show (nI j).toInt = (j : Int) from (nI_T j (by omega))]; exact (Int.toNat_natCast _))) h6 (by omega)) (call_b hC.ts TC_X10_other TN_X10 TM_X10_161 hd_X10_other ⟨Nat.le_of_ble_eq_true rfl, Nat.le_of_ble_eq_true rfl⟩) TI_X10_other TS_X10_other (ct_model G _ _) rfl rfl rfl (Nat.le_of_ble_eq_true rfl) dX10_goes_287 ⟨Nat.le_of_ble_eq_true rfl, Nat.le_of_ble_eq_true rfl⟩) hS (fun v_167 H locs w_168 hR hS => ?_)
                                      subst w_168
                                      refine lv_iconst (v := (-1)) hC.x hC.b dX10_goes_290 (by decide) ?_
                                      refine bi_eq (tgt := 319) (a := (otherM s4 j h6).toInt) (b := (-1)) hC.x hC.b rfl rfl dX10_goes_291 (by decide) (fun c_169 => ?_) (fun c_169 => ?_)
                                      · skip
                                        refine lv_iinc (v := nI (j + 1)) (lv' := [(7, .int (nI (j + 1))), (0, .ref (G.2.1 35)), (1, .int xa), (2, .int ya), (3, .int hr), (5, .int b5), (6, .int h6)]) hC.x hC.b dX10_goes_319 hl (k := 6) rfl (nI_succ _).symm (by decide) rfl (fun ls hl => ?_)
                                        refine lv_goto (tgt := 261) hC.x hC.b dX10_goes_322 (by decide) ?_
                                        exact ih_261 (j + 1) (by omega) (by refine ⟨lw, ?_, lw2, lw3⟩; rcases Nat.eq_or_lt_of_le lw1 with e9 | e9; (exfalso; subst e9; obtain ⟨g1, g2, g3, g4, g5⟩ := lw3; omega); omega) _ _ _ hR hS (lv_sub hl [1, 2, 3, 4, 5, 6, 0] rfl)
                                      · skip
                                        have rd_170 : (s4 36 j).toInt = (σ 36 j).toInt := congrArg Int32.toInt (show s4 36 j = σ 36 j from congrFun (hi5_251.1 36 (by omega) (by first | omega | (dsimp only; omega) | (intro h; exact h))) j)
                                        have hlj := hln j (by omega) ⟨by omega, by omega⟩
                                        have hoi := otherM_in (σ := s4) (j := j) (h6 := h6) (by rw [hi5_251.1 37 (by omega) (by omega), hi5_251.1 38 (by omega) (by omega)]; exact hlj) (by omega)
                                        have hb6 : 0 ≤ (s4 68 h6.toInt.toNat).toInt ∧ (s4 68 h6.toInt.toNat).toInt ≤ 99 := hi1_251.1 _ (by omega)
                                        have hbo : 0 ≤ (s4 68 (otherM s4 j h6).toInt.toNat).toInt ∧ (s4 68 (otherM s4 j h6).toInt.toNat).toInt ≤ 99 := hi1_251.1 _ (by omega)
                                        refine lv_aload_n hC.x hC.b dX10_goes_294 rfl (lv_at hl 0 rfl) ?_
                                        refine rget hC hK hR (ct_model G _ _) rfl uin_X10 38 (by decide) TF_X10_117 rfl dX10_goes_295 ?_
                                        refine lv_aload_n hC.x hC.b dX10_goes_298 rfl (lv_at hl 0 rfl) ?_
                                        refine lv_iload hC.x hC.b dX10_goes_299 (lv_at hl 6 rfl) ?_
                                        refine lv_iload hC.x hC.b dX10_goes_301 (lv_at hl 5 rfl) ?_
                                        have av_171 : (nI j).toInt = (j : Int) := (nI_T j (by omega))
                                        refine goip (runV (As := [.int (nI j), .int h6]) (rest := [.ref (G.2.1 68)]) hC hK hR hl.1 (c_X10_other l hG s4 τ (nI j) j (by first | rfl | (rw [show (nI j).toInt = (j : Int) from (nI_T j (by omega))]; done) | (rw [show (nI j).toInt = (j : Int) from (nI_T j (by omega))]; exact (Int.toNat_natCast _))) h6 (by omega)) (call_b hC.ts TC_X10_other TN_X10 TM_X10_161 hd_X10_other ⟨Nat.le_of_ble_eq_true rfl, Nat.le_of_ble_eq_true rfl⟩) TI_X10_other TS_X10_other (ct_model G _ _) rfl rfl rfl (Nat.le_of_ble_eq_true rfl) dX10_goes_303 ⟨Nat.le_of_ble_eq_true rfl, Nat.le_of_ble_eq_true rfl⟩) hS (fun v_172 H locs w_173 hR hS => ?_)
                                        subst w_173
                                        refine ald hC hK hR (ct_m_far G _ _) rfl (by omega) (by omega) rfl dX10_goes_306 ?_
                                        refine lv_aload_n hC.x hC.b dX10_goes_307 rfl (lv_at hl 0 rfl) ?_
                                        refine rget hC hK hR (ct_model G _ _) rfl uin_X10 38 (by decide) TF_X10_117 rfl dX10_goes_308 ?_
                                        refine lv_iload hC.x hC.b dX10_goes_311 (lv_at hl 5 rfl) ?_
                                        refine ald hC hK hR (ct_m_far G _ _) rfl (by omega) (by omega) rfl dX10_goes_313 ?_
                                        refine lv_iconst (v := 1) hC.x hC.b dX10_goes_314 (by decide) ?_
                                        refine lv_isub hC.x hC.b dX10_goes_315 ?_
                                        have pr_174 : ((s4 68 h6.toInt.toNat) - (1 : Int32)).toInt = ((s4 68 h6.toInt.toNat).toInt - 1) := subI rfl rfl (by omega) (by omega)
                                        refine bi_eq (tgt := 325) (a := (s4 68 (((otherM s4 j h6).toInt).toNat)).toInt) (b := ((s4 68 h6.toInt.toNat).toInt - 1)) hC.x hC.b rfl pr_174 dX10_goes_316 (by decide) (fun c_175 => ?_) (fun c_175 => ?_)
                                        · skip
                                          refine lv_aload_n hC.x hC.b dX10_goes_325 rfl (lv_at hl 0 rfl) ?_
                                          refine lv_dup hC.x hC.b dX10_goes_326 rfl ?_
                                          refine rget hC hK hR (ct_model G _ _) rfl uin_X10 43 (by decide) TF_X10_158 rfl dX10_goes_327 ?_
                                          refine lv_aload_n hC.x hC.b dX10_goes_330 rfl (lv_at hl 0 rfl) ?_
                                          refine rget hC hK hR (ct_model G _ _) rfl uin_X10 1 (by decide) TF_X10_13 rfl dX10_goes_331 ?_
                                          refine lv_iload hC.x hC.b dX10_goes_334 (lv_at hl 6 rfl) ?_
                                          refine ald hC hK hR (ct_m_one G _ _) (nI_T j (by omega)) (by omega) (by omega) (Int.toNat_natCast _) dX10_goes_336 ?_
                                          rw [show s4 37 j = (σ 37 j) from (show s4 37 j = σ 37 j from congrFun (hi5_251.1 37 (by omega) (by first | omega | (dsimp only; omega) | (intro h; exact h))) j)]
                                          refine lv_iload hC.x hC.b dX10_goes_337 (lv_at hl 5 rfl) ?_
                                          refine bi_ne (tgt := 352) (a := (σ 37 j).toInt) (b := h6.toInt) hC.x hC.b rfl rfl dX10_goes_339 (by decide) (fun c_176 => ?_) (fun c_176 => ?_)
                                          · skip
                                            refine lv_aload_n hC.x hC.b dX10_goes_352 rfl (lv_at hl 0 rfl) ?_
                                            refine lv_iload hC.x hC.b dX10_goes_353 (lv_at hl 6 rfl) ?_
                                            refine lv_iload_n hC.x hC.b dX10_goes_355 rfl (lv_at hl 3 rfl) ?_
                                            have av_177 : (nI j).toInt = (j : Int) := (nI_T j (by omega))
                                            have rd_178 : (s4 35 29).toInt = (σ 35 29).toInt := congrArg Int32.toInt (show s4 35 29 = σ 35 29 from hi5_251.2 29 (by first | omega | (dsimp only; omega)))
                                            refine goip (runV (As := [.int (nI j), .int hr]) (rest := [.int (s4 35 43), .ref (G.2.1 35)]) hC hK hR hl.1 (c_X10_told l hG s4 τ (nI j) j (by first | rfl | (rw [show (nI j).toInt = (j : Int) from (nI_T j (by omega))]; done) | (rw [show (nI j).toInt = (j : Int) from (nI_T j (by omega))]; exact (Int.toNat_natCast _))) hr hq (by first | rfl | (rw [show hr.toInt = hr.toInt from rfl]; done) | (rw [show hr.toInt = hr.toInt from rfl]; exact hp_hq)) (by first | assumption | omega) (by omega)) (call_b hC.ts TC_X10_told TN_X10 TM_X10_152 hd_X10_told ⟨Nat.le_of_ble_eq_true rfl, Nat.le_of_ble_eq_true rfl⟩) TI_X10_told TS_X10_told (ct_model G _ _) rfl rfl rfl (Nat.le_of_ble_eq_true rfl) dX10_goes_356 ⟨Nat.le_of_ble_eq_true rfl, Nat.le_of_ble_eq_true rfl⟩) hS (fun v_179 H locs w_180 hR hS => ?_)
                                            subst w_180
                                            refine lv_ineg hC.x hC.b dX10_goes_359 ?_
                                            refine lv_iadd hC.x hC.b dX10_goes_360 ?_
                                            refine rputi hC hK hG hR hS (ct_model G _ _) rfl uin_X10 tyX10 tyX10_ok nmX10 43 (by decide) TF_X10_158 rfl (Or.inl rfl) (Nat.le_of_ble_eq_true rfl) rfl (ct_model G _ _) dX10_goes_361 (fun s_182 es_181 H locs hR hS => ?_)
                                            refine lv_aload_n hC.x hC.b dX10_goes_364 rfl (lv_at hl 0 rfl) ?_
                                            refine rget hC hK hR (ct_model G _ _) rfl uin_X10 39 (by decide) TF_X10_120 rfl dX10_goes_365 ?_
                                            refine lv_aload_n hC.x hC.b dX10_goes_368 rfl (lv_at hl 0 rfl) ?_
                                            refine rget hC hK hR (ct_model G _ _) rfl uin_X10 41 (by decide) TF_X10_155 rfl dX10_goes_369 ?_
                                            rw [show s_182 35 41 = (s4 35 41) from (show s_182 35 41 = s4 35 41 from (by rw [es_181]; exact up2_n (by omega)))]
                                            refine lv_iload hC.x hC.b dX10_goes_372 (lv_at hl 6 rfl) ?_
                                            refine ast hC hK hG hR hS (fun _ => ct_m_going G _ _) rfl (by omega) (by omega) rfl dX10_goes_374 (fun s_183 es_184 H locs hR hS => ?_)
                                            refine lv_aload_n hC.x hC.b dX10_goes_375 rfl (lv_at hl 0 rfl) ?_
                                            refine lv_dup hC.x hC.b dX10_goes_376 rfl ?_
                                            refine rget hC hK hR (ct_model G _ _) rfl uin_X10 41 (by decide) TF_X10_155 rfl dX10_goes_377 ?_
                                            rw [show s_183 35 41 = (s4 35 41) from (Eq.trans (show s_183 35 41 = s_182 35 41 from (by rw [es_184]; exact up2_o (by omega))) (show s_182 35 41 = s4 35 41 from (by rw [es_181]; exact up2_n (by omega))))]
                                            refine lv_iconst (v := 1) hC.x hC.b dX10_goes_380 (by decide) ?_
                                            refine lv_iadd hC.x hC.b dX10_goes_381 ?_
                                            have pr_185 : ((s4 35 41) + (1 : Int32)).toInt = ((s4 35 41).toInt + 1) := addI rfl rfl (by omega) (by omega)
                                            refine rputi hC hK hG hR hS (ct_model G _ _) rfl uin_X10 tyX10 tyX10_ok nmX10 41 (by decide) TF_X10_155 rfl (Or.inl rfl) (Nat.le_of_ble_eq_true rfl) rfl (ct_model G _ _) dX10_goes_382 (fun s_187 es_186 H locs hR hS => ?_)
                                            refine lv_aload_n hC.x hC.b dX10_goes_385 rfl (lv_at hl 0 rfl) ?_
                                            refine lv_iload hC.x hC.b dX10_goes_386 (lv_at hl 6 rfl) ?_
                                            refine lv_iload hC.x hC.b dX10_goes_388 (lv_at hl 5 rfl) ?_
                                            have av_188 : (nI j).toInt = (j : Int) := (nI_T j (by omega))
                                            refine goip (runV (As := [.int (nI j), .int h6]) (rest := []) hC hK hR hl.1 (c_X10_other l hG s_187 τ (nI j) j (by first | rfl | (rw [show (nI j).toInt = (j : Int) from (nI_T j (by omega))]; done) | (rw [show (nI j).toInt = (j : Int) from (nI_T j (by omega))]; exact (Int.toNat_natCast _))) h6 (by omega)) (call_b hC.ts TC_X10_other TN_X10 TM_X10_161 hd_X10_other ⟨Nat.le_of_ble_eq_true rfl, Nat.le_of_ble_eq_true rfl⟩) TI_X10_other TS_X10_other (ct_model G _ _) rfl rfl rfl (Nat.le_of_ble_eq_true rfl) dX10_goes_390 ⟨Nat.le_of_ble_eq_true rfl, Nat.le_of_ble_eq_true rfl⟩) hS (fun v_189 H locs w_190 hR hS => ?_)
                                            subst w_190
                                            have hoe : otherM s_187 j h6 = otherM s4 j h6 := by subst es_186; subst es_184; subst es_181; rfl
                                            refine lv_topi (fun x_191 ex_192 => ?_)
                                            refine lv_istore (lv' := [(6, .int x_191), (0, .ref (G.2.1 35)), (1, .int xa), (2, .int ya), (3, .int hr), (5, .int b5), (7, .int (nI j))]) hC.x hC.b dX10_goes_393 hl (by decide) rfl (fun ls hl => ?_)
                                            have rd_193 : (s_187 35 41).toInt = ((s4 35 41) + (1 : Int32)).toInt := congrArg Int32.toInt (show s_187 35 41 = ((s4 35 41) + (1 : Int32)) from (by rw [es_186]; exact up2_s))
                                            have rd_194 : (s_187 68 x_191.toInt.toNat).toInt = (s4 68 x_191.toInt.toNat).toInt := congrArg Int32.toInt (Eq.trans (show s_187 68 x_191.toInt.toNat = s_183 68 x_191.toInt.toNat from (by rw [es_186]; exact up2_o (by omega))) (Eq.trans (show s_183 68 x_191.toInt.toNat = s_182 68 x_191.toInt.toNat from (by rw [es_184]; exact up2_o (by omega))) (show s_182 68 x_191.toInt.toNat = s4 68 x_191.toInt.toNat from (by rw [es_181]; exact up2_o (by omega)))))
                                            have hx6 : x_191.toInt = (otherM s4 j h6).toInt := by rw [ex_192, hoe]
                                            have hx7 : (s4 68 x_191.toInt.toNat).toInt = (s4 68 (otherM s4 j h6).toInt.toNat).toInt := by rw [hx6]
                                            refine lv_goto (tgt := 251) hC.x hC.b dX10_goes_395 (by decide) ?_
                                            exact ih_251 x_191 s_187 (by omega) (by first | omega | assumption) (by subst es_186; subst es_184; subst es_181; exact hi1_251) (by subst es_186; subst es_184; subst es_181; exact hi2_251) (by first | omega | assumption) (by first | omega | assumption) (by rw [es_186]; exact MRel.upm ((by rw [es_184]; exact MRel.up ((by rw [es_181]; exact MRel.upm (hi5_251) (by first | omega | (dsimp only; omega)))) (by omega) (by first | omega | (dsimp only; omega)))) (by first | omega | (dsimp only; omega))) _ _ _ hR hS (lv_sub hl [1, 2, 3, 4, 5, 0] rfl)
                                          · skip
                                            refine lv_aload_n hC.x hC.b dX10_goes_342 rfl (lv_at hl 0 rfl) ?_
                                            refine lv_iload hC.x hC.b dX10_goes_343 (lv_at hl 6 rfl) ?_
                                            refine lv_iload_n hC.x hC.b dX10_goes_345 rfl (lv_at hl 3 rfl) ?_
                                            have av_195 : (nI j).toInt = (j : Int) := (nI_T j (by omega))
                                            have rd_196 : (s4 35 29).toInt = (σ 35 29).toInt := congrArg Int32.toInt (show s4 35 29 = σ 35 29 from hi5_251.2 29 (by first | omega | (dsimp only; omega)))
                                            refine goip (runV (As := [.int (nI j), .int hr]) (rest := [.int (s4 35 43), .ref (G.2.1 35)]) hC hK hR hl.1 (c_X10_told l hG s4 τ (nI j) j (by first | rfl | (rw [show (nI j).toInt = (j : Int) from (nI_T j (by omega))]; done) | (rw [show (nI j).toInt = (j : Int) from (nI_T j (by omega))]; exact (Int.toNat_natCast _))) hr hq (by first | rfl | (rw [show hr.toInt = hr.toInt from rfl]; done) | (rw [show hr.toInt = hr.toInt from rfl]; exact hp_hq)) (by first | assumption | omega) (by omega)) (call_b hC.ts TC_X10_told TN_X10 TM_X10_152 hd_X10_told ⟨Nat.le_of_ble_eq_true rfl, Nat.le_of_ble_eq_true rfl⟩) TI_X10_told TS_X10_told (ct_model G _ _) rfl rfl rfl (Nat.le_of_ble_eq_true rfl) dX10_goes_346 ⟨Nat.le_of_ble_eq_true rfl, Nat.le_of_ble_eq_true rfl⟩) hS (fun v_197 H locs w_198 hR hS => ?_)
                                            subst w_198
                                            refine lv_goto (tgt := 360) hC.x hC.b dX10_goes_349 (by decide) ?_
                                            refine lv_iadd hC.x hC.b dX10_goes_360 ?_
                                            refine rputi hC hK hG hR hS (ct_model G _ _) rfl uin_X10 tyX10 tyX10_ok nmX10 43 (by decide) TF_X10_158 rfl (Or.inl rfl) (Nat.le_of_ble_eq_true rfl) rfl (ct_model G _ _) dX10_goes_361 (fun s_200 es_199 H locs hR hS => ?_)
                                            refine lv_aload_n hC.x hC.b dX10_goes_364 rfl (lv_at hl 0 rfl) ?_
                                            refine rget hC hK hR (ct_model G _ _) rfl uin_X10 39 (by decide) TF_X10_120 rfl dX10_goes_365 ?_
                                            refine lv_aload_n hC.x hC.b dX10_goes_368 rfl (lv_at hl 0 rfl) ?_
                                            refine rget hC hK hR (ct_model G _ _) rfl uin_X10 41 (by decide) TF_X10_155 rfl dX10_goes_369 ?_
                                            rw [show s_200 35 41 = (s4 35 41) from (show s_200 35 41 = s4 35 41 from (by rw [es_199]; exact up2_n (by omega)))]
                                            refine lv_iload hC.x hC.b dX10_goes_372 (lv_at hl 6 rfl) ?_
                                            refine ast hC hK hG hR hS (fun _ => ct_m_going G _ _) rfl (by omega) (by omega) rfl dX10_goes_374 (fun s_201 es_202 H locs hR hS => ?_)
                                            refine lv_aload_n hC.x hC.b dX10_goes_375 rfl (lv_at hl 0 rfl) ?_
                                            refine lv_dup hC.x hC.b dX10_goes_376 rfl ?_
                                            refine rget hC hK hR (ct_model G _ _) rfl uin_X10 41 (by decide) TF_X10_155 rfl dX10_goes_377 ?_
                                            rw [show s_201 35 41 = (s4 35 41) from (Eq.trans (show s_201 35 41 = s_200 35 41 from (by rw [es_202]; exact up2_o (by omega))) (show s_200 35 41 = s4 35 41 from (by rw [es_199]; exact up2_n (by omega))))]
                                            refine lv_iconst (v := 1) hC.x hC.b dX10_goes_380 (by decide) ?_
                                            refine lv_iadd hC.x hC.b dX10_goes_381 ?_
                                            have pr_203 : ((s4 35 41) + (1 : Int32)).toInt = ((s4 35 41).toInt + 1) := addI rfl rfl (by omega) (by omega)
                                            refine rputi hC hK hG hR hS (ct_model G _ _) rfl uin_X10 tyX10 tyX10_ok nmX10 41 (by decide) TF_X10_155 rfl (Or.inl rfl) (Nat.le_of_ble_eq_true rfl) rfl (ct_model G _ _) dX10_goes_382 (fun s_205 es_204 H locs hR hS => ?_)
                                            refine lv_aload_n hC.x hC.b dX10_goes_385 rfl (lv_at hl 0 rfl) ?_
                                            refine lv_iload hC.x hC.b dX10_goes_386 (lv_at hl 6 rfl) ?_
                                            refine lv_iload hC.x hC.b dX10_goes_388 (lv_at hl 5 rfl) ?_
                                            have av_206 : (nI j).toInt = (j : Int) := (nI_T j (by omega))
                                            refine goip (runV (As := [.int (nI j), .int h6]) (rest := []) hC hK hR hl.1 (c_X10_other l hG s_205 τ (nI j) j (by first | rfl | (rw [show (nI j).toInt = (j : Int) from (nI_T j (by omega))]; done) | (rw [show (nI j).toInt = (j : Int) from (nI_T j (by omega))]; exact (Int.toNat_natCast _))) h6 (by omega)) (call_b hC.ts TC_X10_other TN_X10 TM_X10_161 hd_X10_other ⟨Nat.le_of_ble_eq_true rfl, Nat.le_of_ble_eq_true rfl⟩) TI_X10_other TS_X10_other (ct_model G _ _) rfl rfl rfl (Nat.le_of_ble_eq_true rfl) dX10_goes_390 ⟨Nat.le_of_ble_eq_true rfl, Nat.le_of_ble_eq_true rfl⟩) hS (fun v_207 H locs w_208 hR hS => ?_)
                                            subst w_208
                                            have hoe : otherM s_205 j h6 = otherM s4 j h6 := by subst es_204; subst es_202; subst es_199; rfl
                                            refine lv_topi (fun x_209 ex_210 => ?_)
                                            refine lv_istore (lv' := [(6, .int x_209), (0, .ref (G.2.1 35)), (1, .int xa), (2, .int ya), (3, .int hr), (5, .int b5), (7, .int (nI j))]) hC.x hC.b dX10_goes_393 hl (by decide) rfl (fun ls hl => ?_)
                                            have rd_211 : (s_205 35 41).toInt = ((s4 35 41) + (1 : Int32)).toInt := congrArg Int32.toInt (show s_205 35 41 = ((s4 35 41) + (1 : Int32)) from (by rw [es_204]; exact up2_s))
                                            have rd_212 : (s_205 68 x_209.toInt.toNat).toInt = (s4 68 x_209.toInt.toNat).toInt := congrArg Int32.toInt (Eq.trans (show s_205 68 x_209.toInt.toNat = s_201 68 x_209.toInt.toNat from (by rw [es_204]; exact up2_o (by omega))) (Eq.trans (show s_201 68 x_209.toInt.toNat = s_200 68 x_209.toInt.toNat from (by rw [es_202]; exact up2_o (by omega))) (show s_200 68 x_209.toInt.toNat = s4 68 x_209.toInt.toNat from (by rw [es_199]; exact up2_o (by omega)))))
                                            have hx6 : x_209.toInt = (otherM s4 j h6).toInt := by rw [ex_210, hoe]
                                            have hx7 : (s4 68 x_209.toInt.toNat).toInt = (s4 68 (otherM s4 j h6).toInt.toNat).toInt := by rw [hx6]
                                            refine lv_goto (tgt := 251) hC.x hC.b dX10_goes_395 (by decide) ?_
                                            exact ih_251 x_209 s_205 (by omega) (by first | omega | assumption) (by subst es_204; subst es_202; subst es_199; exact hi1_251) (by subst es_204; subst es_202; subst es_199; exact hi2_251) (by first | omega | assumption) (by first | omega | assumption) (by rw [es_204]; exact MRel.upm ((by rw [es_202]; exact MRel.up ((by rw [es_199]; exact MRel.upm (hi5_251) (by first | omega | (dsimp only; omega)))) (by omega) (by first | omega | (dsimp only; omega)))) (by first | omega | (dsimp only; omega))) _ _ _ hR hS (lv_sub hl [1, 2, 3, 4, 5, 0] rfl)
                                        · skip
                                          refine lv_iinc (v := nI (j + 1)) (lv' := [(7, .int (nI (j + 1))), (0, .ref (G.2.1 35)), (1, .int xa), (2, .int ya), (3, .int hr), (5, .int b5), (6, .int h6)]) hC.x hC.b dX10_goes_319 hl (k := 6) rfl (nI_succ _).symm (by decide) rfl (fun ls hl => ?_)
                                          refine lv_goto (tgt := 261) hC.x hC.b dX10_goes_322 (by decide) ?_
                                          exact ih_261 (j + 1) (by omega) (by refine ⟨lw, ?_, lw2, lw3⟩; rcases Nat.eq_or_lt_of_le lw1 with e9 | e9; (exfalso; subst e9; obtain ⟨g1, g2, g3, g4, g5⟩ := lw3; omega); omega) _ _ _ hR hS (lv_sub hl [1, 2, 3, 4, 5, 6, 0] rfl)
                                  · skip
                                    refine bz_eq (tgt := 319) (a := 0) (b := 0) hC.x hC.b rfl rfl dX10_goes_267 (by decide) (fun _ => ?_) (fun c_213 => absurd c_213 (by decide))
                                    refine lv_iinc (v := nI (j + 1)) (lv' := [(7, .int (nI (j + 1))), (0, .ref (G.2.1 35)), (1, .int xa), (2, .int ya), (3, .int hr), (5, .int b5), (6, .int h6)]) hC.x hC.b dX10_goes_319 hl (k := 6) rfl (nI_succ _).symm (by decide) rfl (fun ls hl => ?_)
                                    refine lv_goto (tgt := 261) hC.x hC.b dX10_goes_322 (by decide) ?_
                                    exact ih_261 (j + 1) (by omega) (by refine ⟨lw, ?_, lw2, lw3⟩; rcases Nat.eq_or_lt_of_le lw1 with e9 | e9; (exfalso; subst e9; obtain ⟨g1, g2, g3, g4, g5⟩ := lw3; omega); omega) _ _ _ hR hS (lv_sub hl [1, 2, 3, 4, 5, 6, 0] rfl)
                              exact L_261 _ 0 (Nat.lt_succ_self _) (by exact gd_ex hln hi5_251 hi1_251 hi2_251 hi0_251 (by omega) (by have hb6 := (hi1_251.1 h6.toInt.toNat (by omega)); omega)) _ _ _ hR hS (lv_sub hl [1, 2, 3, 4, 5, 6, 0] rfl)
                        exact L_251 _ a4 s_133 (Nat.lt_succ_self _) (by first | omega | assumption) (by subst es_132; subst es_130; exact hi1_60) (by subst es_132; subst es_130; exact hL24) (by first | omega | assumption) (by first | omega | assumption) (by rw [es_132]; exact MRel.upm ((by rw [es_130]; exact MRel.upm (hi3_60) (by first | omega | (dsimp only; omega)))) (by first | omega | (dsimp only; omega))) _ _ _ hR hS (lv_sub hl [1, 2, 3, 4, 6, 0] rfl)
                      · skip
                        refine lv_iconst (v := 0) hC.x hC.b dX10_goes_245 (by decide) ?_
                        have rd_214 : (s_133 35 41).toInt = 0 := (congrArg Int32.toInt (Eq.trans (show s_133 35 41 = s_131 35 41 from (by rw [es_132]; exact up2_n (by omega))) (show s_131 35 41 = (0 : Int32) from (by rw [es_130]; exact up2_s)))).trans (by decide)
                        exact retz hC hK hR hS (Or.inl rfl) (by first | exact Or.inr ((⟨by subst es_132; subst es_130; (first | rfl | omega), by exact (by rw [es_132]; exact MRel.upm ((by rw [es_130]; exact MRel.upm (hi3_60) (by first | omega | (dsimp only; omega)))) (by first | omega | (dsimp only; omega))), by first | omega | (dsimp only; omega)⟩)) | exact False.elim (by omega)) dX10_goes_246
                    · skip
                      refine lv_iconst (v := 0) hC.x hC.b dX10_goes_67 (by decide) ?_
                      refine lv_istore (lv' := [(7, .int (0 : Int32)), (0, .ref (G.2.1 35)), (1, .int xa), (2, .int ya), (3, .int hr), (4, .int a4), (5, .int b5), (6, .int (nI n6))]) hC.x hC.b dX10_goes_68 hl (by decide) rfl (fun ls hl => ?_)
                      have L_70 : ∀ (F : Nat) (j : Nat) (s3 : SI), (24 - j) < F → (j ≤ 24) → (BFI (UM σ hr hq) (xM σ) (yM σ) b5.toInt.toNat (fM s3)) → (BFL (UM σ hr hq) (xM σ) (yM σ) (n6 : Int) j (fM s3)) → (MRel (fun k => k = 68 ∨ k = 69) (fun j => j = 41 ∨ j = 43) σ s3) → ∀ (H : Heap) (locs : List Loc) (ls : Array Slot), RepH G s3 τ H → va_S A s.heap H locs → lv_has ls 9 [(0, .ref (G.2.1 35)), (1, .int xa), (2, .int ya), (3, .int hr), (4, .int a4), (5, .int b5), (6, .int (nI n6)), (7, .int (nI j))] → W p l e (rmD 2) s m args below meth c H locs 0 0 (MQ below (va_Qi (po_X10_goes σ τ xa xq ya yq hr hq) (BU G) A) args s 0 0 A) (F0 m 70 ls []) := by
                        intro F
                        induction F with
                        | zero => intro j s3 hm; exact absurd hm (Nat.not_lt_zero _)
                        | succ F ih_70 =>
                          intro j s3 hm_70 hi0_70 hi1_70 hi2_70 hi3_70 H locs ls hR hS hl
                          have hnI := nI_T j (by omega)
                          refine lv_iload hC.x hC.b dX10_goes_70 (lv_at hl 7 rfl) ?_
                          refine lv_bipush (v := 24) hC.x hC.b dX10_goes_72 (by decide) ?_
                          refine bi_ge (tgt := 217) (a := (j : Int)) (b := 24) hC.x hC.b (nI_T j (by omega)) rfl dX10_goes_74 (by decide) (fun c_215 => ?_) (fun c_215 => ?_)
                          · skip
                            refine lv_iinc (v := nI (n6 + 1)) (lv' := [(6, .int (nI (n6 + 1))), (0, .ref (G.2.1 35)), (1, .int xa), (2, .int ya), (3, .int hr), (4, .int a4), (5, .int b5), (7, .int (nI j))]) hC.x hC.b dX10_goes_217 hl (k := 6) rfl (nI_succ _).symm (by decide) rfl (fun ls hl => ?_)
                            refine lv_goto (tgt := 60) hC.x hC.b dX10_goes_220 (by decide) ?_
                            exact ih_60 (n6 + 1) s3 (by omega) (by first | omega | assumption) (by exact hi1_70) (by (have hj : j = 24 := by omega); subst hj; rw [show (((n6 + 1 : Nat)) : Int) = (n6 : Int) + 1 by omega]; exact hi2_70.rd) hi3_70 _ _ _ hR hS (lv_sub hl [1, 2, 3, 4, 5, 6, 0] rfl)
                          · skip
                            refine lv_aload_n hC.x hC.b dX10_goes_77 rfl (lv_at hl 0 rfl) ?_
                            refine lv_iload hC.x hC.b dX10_goes_78 (lv_at hl 7 rfl) ?_
                            have av_216 : (nI j).toInt = (j : Int) := (nI_T j (by omega))
                            refine goip (runV (As := [.int (nI j)]) (rest := []) hC hK hR hl.1 (c_X10_isLink l hG s3 τ (nI j) j (by first | rfl | (rw [show (nI j).toInt = (j : Int) from (nI_T j (by omega))]; done) | (rw [show (nI j).toInt = (j : Int) from (nI_T j (by omega))]; exact (Int.toNat_natCast _))) ) (call_b hC.ts TC_X10_isLink TN_X10 TM_X10_148 hd_X10_isLink ⟨Nat.le_of_ble_eq_true rfl, Nat.le_of_ble_eq_true rfl⟩) TI_X10_isLink TS_X10_isLink (ct_model G _ _) rfl rfl rfl (Nat.le_of_ble_eq_true rfl) dX10_goes_80 ⟨Nat.le_of_ble_eq_true rfl, Nat.le_of_ble_eq_true rfl⟩) hS (fun v_217 H locs w_218 hR hS => ?_)
                            rcases w_218 with ⟨rfl, f_219, f_220⟩ | ⟨rfl, f_221⟩
                            · skip
                              refine bz_eq (tgt := 211) (a := 1) (b := 0) hC.x hC.b rfl rfl dX10_goes_83 (by decide) (fun c_222 => absurd c_222 (by decide)) (fun _ => ?_)
                              refine lv_aload_n hC.x hC.b dX10_goes_86 rfl (lv_at hl 0 rfl) ?_
                              refine lv_iload hC.x hC.b dX10_goes_87 (lv_at hl 7 rfl) ?_
                              refine lv_iload_n hC.x hC.b dX10_goes_89 rfl (lv_at hl 3 rfl) ?_
                              have av_223 : (nI j).toInt = (j : Int) := (nI_T j (by omega))
                              have rd_224 : (s3 35 29).toInt = (σ 35 29).toInt := congrArg Int32.toInt (show s3 35 29 = σ 35 29 from hi3_70.2 29 (by first | omega | (dsimp only; omega)))
                              refine goip (runV (As := [.int (nI j), .int hr]) (rest := []) hC hK hR hl.1 (c_X10_told l hG s3 τ (nI j) j (by first | rfl | (rw [show (nI j).toInt = (j : Int) from (nI_T j (by omega))]; done) | (rw [show (nI j).toInt = (j : Int) from (nI_T j (by omega))]; exact (Int.toNat_natCast _))) hr hq (by first | rfl | (rw [show hr.toInt = hr.toInt from rfl]; done) | (rw [show hr.toInt = hr.toInt from rfl]; exact hp_hq)) (by first | assumption | omega) (by omega)) (call_b hC.ts TC_X10_told TN_X10 TM_X10_152 hd_X10_told ⟨Nat.le_of_ble_eq_true rfl, Nat.le_of_ble_eq_true rfl⟩) TI_X10_told TS_X10_told (ct_model G _ _) rfl rfl rfl (Nat.le_of_ble_eq_true rfl) dX10_goes_90 ⟨Nat.le_of_ble_eq_true rfl, Nat.le_of_ble_eq_true rfl⟩) hS (fun v_225 H locs w_226 hR hS => ?_)
                              subst w_226
                              refine lv_ldc hC.x hC.b hC.ow (hC.ts _ TK_X10_151) dX10_goes_93 ?_
                              refine bi_ne (tgt := 101) (a := (toldM s3 j hr hq).toInt) (b := 1000000) hC.x hC.b rfl rfl dX10_goes_95 (by decide) (fun c_227 => ?_) (fun c_227 => ?_)
                              · skip
                                have rd_228 : (s3 36 j).toInt = (σ 36 j).toInt := congrArg Int32.toInt (show s3 36 j = σ 36 j from congrFun (hi3_70.1 36 (by omega) (by first | omega | (dsimp only; omega) | (intro h; exact h))) j)
                                have hU : UM σ hr hq j := ⟨by omega, by omega, by rw [← toldM_g (q := j) (hr := hr) (hq := hq) hi3_70]; omega⟩
                                have hlj := hln j (by omega) ⟨by omega, by omega⟩
                                have hbx : 0 ≤ (s3 68 (σ 37 j).toInt.toNat).toInt ∧ (s3 68 (σ 37 j).toInt.toNat).toInt ≤ 99 := hi1_70.1 _ (by omega)
                                have hby : 0 ≤ (s3 68 (σ 38 j).toInt.toNat).toInt ∧ (s3 68 (σ 38 j).toInt.toNat).toInt ≤ 99 := hi1_70.1 _ (by omega)
                                refine lv_aload_n hC.x hC.b dX10_goes_101 rfl (lv_at hl 0 rfl) ?_
                                refine rget hC hK hR (ct_model G _ _) rfl uin_X10 38 (by decide) TF_X10_117 rfl dX10_goes_102 ?_
                                refine lv_aload_n hC.x hC.b dX10_goes_105 rfl (lv_at hl 0 rfl) ?_
                                refine rget hC hK hR (ct_model G _ _) rfl uin_X10 1 (by decide) TF_X10_13 rfl dX10_goes_106 ?_
                                refine lv_iload hC.x hC.b dX10_goes_109 (lv_at hl 7 rfl) ?_
                                refine ald hC hK hR (ct_m_one G _ _) (nI_T j (by omega)) (by omega) (by omega) (Int.toNat_natCast _) dX10_goes_111 ?_
                                rw [show s3 37 j = (σ 37 j) from (show s3 37 j = σ 37 j from congrFun (hi3_70.1 37 (by omega) (by first | omega | (dsimp only; omega) | (intro h; exact h))) j)]
                                refine ald hC hK hR (ct_m_far G _ _) rfl (by omega) (by omega) rfl dX10_goes_112 ?_
                                refine lv_aload_n hC.x hC.b dX10_goes_113 rfl (lv_at hl 0 rfl) ?_
                                refine rget hC hK hR (ct_model G _ _) rfl uin_X10 38 (by decide) TF_X10_117 rfl dX10_goes_114 ?_
                                refine lv_aload_n hC.x hC.b dX10_goes_117 rfl (lv_at hl 0 rfl) ?_
                                refine rget hC hK hR (ct_model G _ _) rfl uin_X10 2 (by decide) TF_X10_16 rfl dX10_goes_118 ?_
                                refine lv_iload hC.x hC.b dX10_goes_121 (lv_at hl 7 rfl) ?_
                                refine ald hC hK hR (ct_m_two G _ _) (nI_T j (by omega)) (by omega) (by omega) (Int.toNat_natCast _) dX10_goes_123 ?_
                                rw [show s3 38 j = (σ 38 j) from (show s3 38 j = σ 38 j from congrFun (hi3_70.1 38 (by omega) (by first | omega | (dsimp only; omega) | (intro h; exact h))) j)]
                                refine ald hC hK hR (ct_m_far G _ _) rfl (by omega) (by omega) rfl dX10_goes_124 ?_
                                refine lv_iconst (v := 1) hC.x hC.b dX10_goes_125 (by decide) ?_
                                refine lv_iadd hC.x hC.b dX10_goes_126 ?_
                                have pr_229 : ((s3 68 (((σ 38 j).toInt).toNat)) + (1 : Int32)).toInt = ((s3 68 (((σ 38 j).toInt).toNat)).toInt + 1) := addI rfl rfl (by omega) (by omega)
                                refine bi_le (tgt := 156) (a := (s3 68 (((σ 37 j).toInt).toNat)).toInt) (b := ((s3 68 (((σ 38 j).toInt).toNat)).toInt + 1)) hC.x hC.b rfl pr_229 dX10_goes_127 (by decide) (fun c_230 => ?_) (fun c_230 => ?_)
                                · skip
                                  have hA1 : BFI (UM σ hr hq) (xM σ) (yM σ) b5.toInt.toNat (fM s3) ∧ BFL (UM σ hr hq) (xM σ) (yM σ) (n6 : Int) j (fM s3) ∧ (s3 68 (xM σ j)).toInt ≤ (s3 68 (yM σ j)).toInt + 1 := ⟨hi1_70, hi2_70, by assumption⟩
                                  refine lv_aload_n hC.x hC.b dX10_goes_156 rfl (lv_at hl 0 rfl) ?_
                                  refine rget hC hK hR (ct_model G _ _) rfl uin_X10 38 (by decide) TF_X10_117 rfl dX10_goes_157 ?_
                                  refine lv_aload_n hC.x hC.b dX10_goes_160 rfl (lv_at hl 0 rfl) ?_
                                  refine rget hC hK hR (ct_model G _ _) rfl uin_X10 2 (by decide) TF_X10_16 rfl dX10_goes_161 ?_
                                  refine lv_iload hC.x hC.b dX10_goes_164 (lv_at hl 7 rfl) ?_
                                  refine ald hC hK hR (ct_m_two G _ _) (nI_T j (by omega)) (by omega) (by omega) (Int.toNat_natCast _) dX10_goes_166 ?_
                                  rw [show s3 38 j = (σ 38 j) from (show s3 38 j = σ 38 j from congrFun (hi3_70.1 38 (by omega) (by first | omega | (dsimp only; omega) | (intro h; exact h))) j)]
                                  refine ald hC hK hR (ct_m_far G _ _) rfl (by omega) (by omega) rfl dX10_goes_167 ?_
                                  refine lv_aload_n hC.x hC.b dX10_goes_168 rfl (lv_at hl 0 rfl) ?_
                                  refine rget hC hK hR (ct_model G _ _) rfl uin_X10 38 (by decide) TF_X10_117 rfl dX10_goes_169 ?_
                                  refine lv_aload_n hC.x hC.b dX10_goes_172 rfl (lv_at hl 0 rfl) ?_
                                  refine rget hC hK hR (ct_model G _ _) rfl uin_X10 1 (by decide) TF_X10_13 rfl dX10_goes_173 ?_
                                  refine lv_iload hC.x hC.b dX10_goes_176 (lv_at hl 7 rfl) ?_
                                  refine ald hC hK hR (ct_m_one G _ _) (nI_T j (by omega)) (by omega) (by omega) (Int.toNat_natCast _) dX10_goes_178 ?_
                                  rw [show s3 37 j = (σ 37 j) from (show s3 37 j = σ 37 j from congrFun (hi3_70.1 37 (by omega) (by first | omega | (dsimp only; omega) | (intro h; exact h))) j)]
                                  refine ald hC hK hR (ct_m_far G _ _) rfl (by omega) (by omega) rfl dX10_goes_179 ?_
                                  refine lv_iconst (v := 1) hC.x hC.b dX10_goes_180 (by decide) ?_
                                  refine lv_iadd hC.x hC.b dX10_goes_181 ?_
                                  have pr_231 : ((s3 68 (((σ 37 j).toInt).toNat)) + (1 : Int32)).toInt = ((s3 68 (((σ 37 j).toInt).toNat)).toInt + 1) := addI rfl rfl (by omega) (by omega)
                                  refine bi_le (tgt := 211) (a := (s3 68 (((σ 38 j).toInt).toNat)).toInt) (b := ((s3 68 (((σ 37 j).toInt).toNat)).toInt + 1)) hC.x hC.b rfl pr_231 dX10_goes_182 (by decide) (fun c_232 => ?_) (fun c_232 => ?_)
                                  · skip
                                    have hA2 := bf_a0 hA1 (by show (s3 68 (σ 38 j).toInt.toNat).toInt ≤ (s3 68 (σ 37 j).toInt.toNat).toInt + 1; omega)
                                    refine lv_iinc (v := nI (j + 1)) (lv' := [(7, .int (nI (j + 1))), (0, .ref (G.2.1 35)), (1, .int xa), (2, .int ya), (3, .int hr), (4, .int a4), (5, .int b5), (6, .int (nI n6))]) hC.x hC.b dX10_goes_211 hl (k := 7) rfl (nI_succ _).symm (by decide) rfl (fun ls hl => ?_)
                                    refine lv_goto (tgt := 70) hC.x hC.b dX10_goes_214 (by decide) ?_
                                    exact ih_70 (j + 1) s3 (by omega) (by first | omega | assumption) (by exact hA2.1) (by exact hA2.2) hi3_70 _ _ _ hR hS (lv_sub hl [1, 2, 3, 4, 5, 6, 7, 0] rfl)
                                  · skip
                                    refine lv_aload_n hC.x hC.b dX10_goes_185 rfl (lv_at hl 0 rfl) ?_
                                    refine rget hC hK hR (ct_model G _ _) rfl uin_X10 38 (by decide) TF_X10_117 rfl dX10_goes_186 ?_
                                    refine lv_aload_n hC.x hC.b dX10_goes_189 rfl (lv_at hl 0 rfl) ?_
                                    refine rget hC hK hR (ct_model G _ _) rfl uin_X10 2 (by decide) TF_X10_16 rfl dX10_goes_190 ?_
                                    refine lv_iload hC.x hC.b dX10_goes_193 (lv_at hl 7 rfl) ?_
                                    refine ald hC hK hR (ct_m_two G _ _) (nI_T j (by omega)) (by omega) (by omega) (Int.toNat_natCast _) dX10_goes_195 ?_
                                    rw [show s3 38 j = (σ 38 j) from (show s3 38 j = σ 38 j from congrFun (hi3_70.1 38 (by omega) (by first | omega | (dsimp only; omega) | (intro h; exact h))) j)]
                                    refine lv_aload_n hC.x hC.b dX10_goes_196 rfl (lv_at hl 0 rfl) ?_
                                    refine rget hC hK hR (ct_model G _ _) rfl uin_X10 38 (by decide) TF_X10_117 rfl dX10_goes_197 ?_
                                    refine lv_aload_n hC.x hC.b dX10_goes_200 rfl (lv_at hl 0 rfl) ?_
                                    refine rget hC hK hR (ct_model G _ _) rfl uin_X10 1 (by decide) TF_X10_13 rfl dX10_goes_201 ?_
                                    refine lv_iload hC.x hC.b dX10_goes_204 (lv_at hl 7 rfl) ?_
                                    refine ald hC hK hR (ct_m_one G _ _) (nI_T j (by omega)) (by omega) (by omega) (Int.toNat_natCast _) dX10_goes_206 ?_
                                    rw [show s3 37 j = (σ 37 j) from (show s3 37 j = σ 37 j from congrFun (hi3_70.1 37 (by omega) (by first | omega | (dsimp only; omega) | (intro h; exact h))) j)]
                                    refine ald hC hK hR (ct_m_far G _ _) rfl (by omega) (by omega) rfl dX10_goes_207 ?_
                                    refine lv_iconst (v := 1) hC.x hC.b dX10_goes_208 (by decide) ?_
                                    refine lv_iadd hC.x hC.b dX10_goes_209 ?_
                                    have pr_233 : ((s3 68 (((σ 37 j).toInt).toNat)) + (1 : Int32)).toInt = ((s3 68 (((σ 37 j).toInt).toNat)).toInt + 1) := addI rfl rfl (by omega) (by omega)
                                    refine ast hC hK hG hR hS (fun _ => ct_m_far G _ _) rfl (by omega) (by omega) rfl dX10_goes_210 (fun s_234 es_235 H locs hR hS => ?_)
                                    have hA2 := bf_a2 hln (by omega) hU hA1 (by show (s3 68 (σ 37 j).toInt.toNat).toInt + 1 < (s3 68 (σ 38 j).toInt.toNat).toInt; omega) (by show _ = (s3 68 (σ 37 j).toInt.toNat).toInt + 1; omega) es_235
                                    refine lv_iinc (v := nI (j + 1)) (lv' := [(7, .int (nI (j + 1))), (0, .ref (G.2.1 35)), (1, .int xa), (2, .int ya), (3, .int hr), (4, .int a4), (5, .int b5), (6, .int (nI n6))]) hC.x hC.b dX10_goes_211 hl (k := 7) rfl (nI_succ _).symm (by decide) rfl (fun ls hl => ?_)
                                    refine lv_goto (tgt := 70) hC.x hC.b dX10_goes_214 (by decide) ?_
                                    exact ih_70 (j + 1) s_234 (by omega) (by first | omega | assumption) (by exact hA2.1) (by exact hA2.2) (by rw [es_235]; exact MRel.up (hi3_70) (by omega) (by first | omega | (dsimp only; omega))) _ _ _ hR hS (lv_sub hl [1, 2, 3, 4, 5, 6, 7, 0] rfl)
                                · skip
                                  refine lv_aload_n hC.x hC.b dX10_goes_130 rfl (lv_at hl 0 rfl) ?_
                                  refine rget hC hK hR (ct_model G _ _) rfl uin_X10 38 (by decide) TF_X10_117 rfl dX10_goes_131 ?_
                                  refine lv_aload_n hC.x hC.b dX10_goes_134 rfl (lv_at hl 0 rfl) ?_
                                  refine rget hC hK hR (ct_model G _ _) rfl uin_X10 1 (by decide) TF_X10_13 rfl dX10_goes_135 ?_
                                  refine lv_iload hC.x hC.b dX10_goes_138 (lv_at hl 7 rfl) ?_
                                  refine ald hC hK hR (ct_m_one G _ _) (nI_T j (by omega)) (by omega) (by omega) (Int.toNat_natCast _) dX10_goes_140 ?_
                                  rw [show s3 37 j = (σ 37 j) from (show s3 37 j = σ 37 j from congrFun (hi3_70.1 37 (by omega) (by first | omega | (dsimp only; omega) | (intro h; exact h))) j)]
                                  refine lv_aload_n hC.x hC.b dX10_goes_141 rfl (lv_at hl 0 rfl) ?_
                                  refine rget hC hK hR (ct_model G _ _) rfl uin_X10 38 (by decide) TF_X10_117 rfl dX10_goes_142 ?_
                                  refine lv_aload_n hC.x hC.b dX10_goes_145 rfl (lv_at hl 0 rfl) ?_
                                  refine rget hC hK hR (ct_model G _ _) rfl uin_X10 2 (by decide) TF_X10_16 rfl dX10_goes_146 ?_
                                  refine lv_iload hC.x hC.b dX10_goes_149 (lv_at hl 7 rfl) ?_
                                  refine ald hC hK hR (ct_m_two G _ _) (nI_T j (by omega)) (by omega) (by omega) (Int.toNat_natCast _) dX10_goes_151 ?_
                                  rw [show s3 38 j = (σ 38 j) from (show s3 38 j = σ 38 j from congrFun (hi3_70.1 38 (by omega) (by first | omega | (dsimp only; omega) | (intro h; exact h))) j)]
                                  refine ald hC hK hR (ct_m_far G _ _) rfl (by omega) (by omega) rfl dX10_goes_152 ?_
                                  refine lv_iconst (v := 1) hC.x hC.b dX10_goes_153 (by decide) ?_
                                  refine lv_iadd hC.x hC.b dX10_goes_154 ?_
                                  have pr_236 : ((s3 68 (((σ 38 j).toInt).toNat)) + (1 : Int32)).toInt = ((s3 68 (((σ 38 j).toInt).toNat)).toInt + 1) := addI rfl rfl (by omega) (by omega)
                                  refine ast hC hK hG hR hS (fun _ => ct_m_far G _ _) rfl (by omega) (by omega) rfl dX10_goes_155 (fun s_237 es_238 H locs hR hS => ?_)
                                  have hA1 : BFI (UM σ hr hq) (xM σ) (yM σ) b5.toInt.toNat (fM s_237) ∧ BFL (UM σ hr hq) (xM σ) (yM σ) (n6 : Int) j (fM s_237) ∧ (s_237 68 (xM σ j)).toInt ≤ (s_237 68 (yM σ j)).toInt + 1 := bf_a1 hln (by omega) hU hi1_70 hi2_70 (by assumption) (by assumption) es_238
                                  have rdx : (s_237 68 (σ 37 j).toInt.toNat).toInt = (s3 68 (σ 38 j).toInt.toNat).toInt + 1 := by rw [es_238, up2_s]; omega
                                  have hbx2 : 0 ≤ (s_237 68 (σ 37 j).toInt.toNat).toInt ∧ (s_237 68 (σ 37 j).toInt.toNat).toInt ≤ 99 := hA1.1.1 _ (by omega)
                                  refine lv_aload_n hC.x hC.b dX10_goes_156 rfl (lv_at hl 0 rfl) ?_
                                  refine rget hC hK hR (ct_model G _ _) rfl uin_X10 38 (by decide) TF_X10_117 rfl dX10_goes_157 ?_
                                  refine lv_aload_n hC.x hC.b dX10_goes_160 rfl (lv_at hl 0 rfl) ?_
                                  refine rget hC hK hR (ct_model G _ _) rfl uin_X10 2 (by decide) TF_X10_16 rfl dX10_goes_161 ?_
                                  refine lv_iload hC.x hC.b dX10_goes_164 (lv_at hl 7 rfl) ?_
                                  refine ald hC hK hR (ct_m_two G _ _) (nI_T j (by omega)) (by omega) (by omega) (Int.toNat_natCast _) dX10_goes_166 ?_
                                  rw [show s_237 38 j = (σ 38 j) from (Eq.trans (show s_237 38 j = s3 38 j from (by rw [es_238]; exact up2_o (by omega))) (show s3 38 j = σ 38 j from congrFun (hi3_70.1 38 (by omega) (by first | omega | (dsimp only; omega) | (intro h; exact h))) j))]
                                  refine ald hC hK hR (ct_m_far G _ _) rfl (by omega) (by omega) rfl dX10_goes_167 ?_
                                  refine lv_aload_n hC.x hC.b dX10_goes_168 rfl (lv_at hl 0 rfl) ?_
                                  refine rget hC hK hR (ct_model G _ _) rfl uin_X10 38 (by decide) TF_X10_117 rfl dX10_goes_169 ?_
                                  refine lv_aload_n hC.x hC.b dX10_goes_172 rfl (lv_at hl 0 rfl) ?_
                                  refine rget hC hK hR (ct_model G _ _) rfl uin_X10 1 (by decide) TF_X10_13 rfl dX10_goes_173 ?_
                                  refine lv_iload hC.x hC.b dX10_goes_176 (lv_at hl 7 rfl) ?_
                                  refine ald hC hK hR (ct_m_one G _ _) (nI_T j (by omega)) (by omega) (by omega) (Int.toNat_natCast _) dX10_goes_178 ?_
                                  rw [show s_237 37 j = (σ 37 j) from (Eq.trans (show s_237 37 j = s3 37 j from (by rw [es_238]; exact up2_o (by omega))) (show s3 37 j = σ 37 j from congrFun (hi3_70.1 37 (by omega) (by first | omega | (dsimp only; omega) | (intro h; exact h))) j))]
                                  refine ald hC hK hR (ct_m_far G _ _) rfl (by omega) (by omega) rfl dX10_goes_179 ?_
                                  rw [show s_237 68 (((σ 37 j).toInt).toNat) = ((s3 68 (((σ 38 j).toInt).toNat)) + (1 : Int32)) from (show s_237 68 (((σ 37 j).toInt).toNat) = ((s3 68 (((σ 38 j).toInt).toNat)) + (1 : Int32)) from (by rw [es_238]; exact up2_s))]
                                  refine lv_iconst (v := 1) hC.x hC.b dX10_goes_180 (by decide) ?_
                                  refine lv_iadd hC.x hC.b dX10_goes_181 ?_
                                  have pr_239 : (((s3 68 (((σ 38 j).toInt).toNat)) + (1 : Int32)) + (1 : Int32)).toInt = (((s3 68 (((σ 38 j).toInt).toNat)) + (1 : Int32)).toInt + 1) := addI rfl rfl (by omega) (by omega)
                                  refine bi_le (tgt := 211) (a := (s_237 68 (((σ 38 j).toInt).toNat)).toInt) (b := (((s3 68 (((σ 38 j).toInt).toNat)) + (1 : Int32)).toInt + 1)) hC.x hC.b rfl pr_239 dX10_goes_182 (by decide) (fun c_240 => ?_) (fun c_240 => ?_)
                                  · skip
                                    have hA2 := bf_a0 hA1 (by show (s_237 68 (σ 38 j).toInt.toNat).toInt ≤ (s_237 68 (σ 37 j).toInt.toNat).toInt + 1; omega)
                                    refine lv_iinc (v := nI (j + 1)) (lv' := [(7, .int (nI (j + 1))), (0, .ref (G.2.1 35)), (1, .int xa), (2, .int ya), (3, .int hr), (4, .int a4), (5, .int b5), (6, .int (nI n6))]) hC.x hC.b dX10_goes_211 hl (k := 7) rfl (nI_succ _).symm (by decide) rfl (fun ls hl => ?_)
                                    refine lv_goto (tgt := 70) hC.x hC.b dX10_goes_214 (by decide) ?_
                                    exact ih_70 (j + 1) s_237 (by omega) (by first | omega | assumption) (by exact hA2.1) (by exact hA2.2) (by rw [es_238]; exact MRel.up (hi3_70) (by omega) (by first | omega | (dsimp only; omega))) _ _ _ hR hS (lv_sub hl [1, 2, 3, 4, 5, 6, 7, 0] rfl)
                                  · skip
                                    refine lv_aload_n hC.x hC.b dX10_goes_185 rfl (lv_at hl 0 rfl) ?_
                                    refine rget hC hK hR (ct_model G _ _) rfl uin_X10 38 (by decide) TF_X10_117 rfl dX10_goes_186 ?_
                                    refine lv_aload_n hC.x hC.b dX10_goes_189 rfl (lv_at hl 0 rfl) ?_
                                    refine rget hC hK hR (ct_model G _ _) rfl uin_X10 2 (by decide) TF_X10_16 rfl dX10_goes_190 ?_
                                    refine lv_iload hC.x hC.b dX10_goes_193 (lv_at hl 7 rfl) ?_
                                    refine ald hC hK hR (ct_m_two G _ _) (nI_T j (by omega)) (by omega) (by omega) (Int.toNat_natCast _) dX10_goes_195 ?_
                                    rw [show s_237 38 j = (σ 38 j) from (Eq.trans (show s_237 38 j = s3 38 j from (by rw [es_238]; exact up2_o (by omega))) (show s3 38 j = σ 38 j from congrFun (hi3_70.1 38 (by omega) (by first | omega | (dsimp only; omega) | (intro h; exact h))) j))]
                                    refine lv_aload_n hC.x hC.b dX10_goes_196 rfl (lv_at hl 0 rfl) ?_
                                    refine rget hC hK hR (ct_model G _ _) rfl uin_X10 38 (by decide) TF_X10_117 rfl dX10_goes_197 ?_
                                    refine lv_aload_n hC.x hC.b dX10_goes_200 rfl (lv_at hl 0 rfl) ?_
                                    refine rget hC hK hR (ct_model G _ _) rfl uin_X10 1 (by decide) TF_X10_13 rfl dX10_goes_201 ?_
                                    refine lv_iload hC.x hC.b dX10_goes_204 (lv_at hl 7 rfl) ?_
                                    refine ald hC hK hR (ct_m_one G _ _) (nI_T j (by omega)) (by omega) (by omega) (Int.toNat_natCast _) dX10_goes_206 ?_
                                    rw [show s_237 37 j = (σ 37 j) from (Eq.trans (show s_237 37 j = s3 37 j from (by rw [es_238]; exact up2_o (by omega))) (show s3 37 j = σ 37 j from congrFun (hi3_70.1 37 (by omega) (by first | omega | (dsimp only; omega) | (intro h; exact h))) j))]
                                    refine ald hC hK hR (ct_m_far G _ _) rfl (by omega) (by omega) rfl dX10_goes_207 ?_
                                    rw [show s_237 68 (((σ 37 j).toInt).toNat) = ((s3 68 (((σ 38 j).toInt).toNat)) + (1 : Int32)) from (show s_237 68 (((σ 37 j).toInt).toNat) = ((s3 68 (((σ 38 j).toInt).toNat)) + (1 : Int32)) from (by rw [es_238]; exact up2_s))]
                                    refine lv_iconst (v := 1) hC.x hC.b dX10_goes_208 (by decide) ?_
                                    refine lv_iadd hC.x hC.b dX10_goes_209 ?_
                                    have pr_241 : (((s3 68 (((σ 38 j).toInt).toNat)) + (1 : Int32)) + (1 : Int32)).toInt = (((s3 68 (((σ 38 j).toInt).toNat)) + (1 : Int32)).toInt + 1) := addI rfl rfl (by omega) (by omega)
                                    refine ast hC hK hG hR hS (fun _ => ct_m_far G _ _) rfl (by omega) (by omega) rfl dX10_goes_210 (fun s_242 es_243 H locs hR hS => ?_)
                                    have hA2 := bf_a2 hln (by omega) hU hA1 (by show (s_237 68 (σ 37 j).toInt.toNat).toInt + 1 < (s_237 68 (σ 38 j).toInt.toNat).toInt; omega) (by show _ = (s_237 68 (σ 37 j).toInt.toNat).toInt + 1; omega) es_243
                                    refine lv_iinc (v := nI (j + 1)) (lv' := [(7, .int (nI (j + 1))), (0, .ref (G.2.1 35)), (1, .int xa), (2, .int ya), (3, .int hr), (4, .int a4), (5, .int b5), (6, .int (nI n6))]) hC.x hC.b dX10_goes_211 hl (k := 7) rfl (nI_succ _).symm (by decide) rfl (fun ls hl => ?_)
                                    refine lv_goto (tgt := 70) hC.x hC.b dX10_goes_214 (by decide) ?_
                                    exact ih_70 (j + 1) s_242 (by omega) (by first | omega | assumption) (by exact hA2.1) (by exact hA2.2) (by rw [es_243]; exact MRel.up ((by rw [es_238]; exact MRel.up (hi3_70) (by omega) (by first | omega | (dsimp only; omega)))) (by omega) (by first | omega | (dsimp only; omega))) _ _ _ hR hS (lv_sub hl [1, 2, 3, 4, 5, 6, 7, 0] rfl)
                              · skip
                                refine lv_goto (tgt := 211) hC.x hC.b dX10_goes_98 (by decide) ?_
                                have rd_244 : (s3 36 j).toInt = (σ 36 j).toInt := congrArg Int32.toInt (show s3 36 j = σ 36 j from congrFun (hi3_70.1 36 (by omega) (by first | omega | (dsimp only; omega) | (intro h; exact h))) j)
                                have hA2 := bf_sk hi1_70 hi2_70 (fun h => by have h1 := h.1; have h2 := h.2.1; have h3 := h.2.2; rw [← toldM_g (q := j) (hr := hr) (hq := hq) hi3_70] at h3; omega)
                                refine lv_iinc (v := nI (j + 1)) (lv' := [(7, .int (nI (j + 1))), (0, .ref (G.2.1 35)), (1, .int xa), (2, .int ya), (3, .int hr), (4, .int a4), (5, .int b5), (6, .int (nI n6))]) hC.x hC.b dX10_goes_211 hl (k := 7) rfl (nI_succ _).symm (by decide) rfl (fun ls hl => ?_)
                                refine lv_goto (tgt := 70) hC.x hC.b dX10_goes_214 (by decide) ?_
                                exact ih_70 (j + 1) s3 (by omega) (by first | omega | assumption) (by exact hA2.1) (by exact hA2.2) hi3_70 _ _ _ hR hS (lv_sub hl [1, 2, 3, 4, 5, 6, 7, 0] rfl)
                            · skip
                              refine bz_eq (tgt := 211) (a := 0) (b := 0) hC.x hC.b rfl rfl dX10_goes_83 (by decide) (fun _ => ?_) (fun c_245 => absurd c_245 (by decide))
                              have rd_246 : (s3 36 j).toInt = (σ 36 j).toInt := congrArg Int32.toInt (show s3 36 j = σ 36 j from congrFun (hi3_70.1 36 (by omega) (by first | omega | (dsimp only; omega) | (intro h; exact h))) j)
                              have hA2 := bf_sk hi1_70 hi2_70 (fun h => by have h1 := h.1; have h2 := h.2.1; have h3 := h.2.2; rw [← toldM_g (q := j) (hr := hr) (hq := hq) hi3_70] at h3; omega)
                              refine lv_iinc (v := nI (j + 1)) (lv' := [(7, .int (nI (j + 1))), (0, .ref (G.2.1 35)), (1, .int xa), (2, .int ya), (3, .int hr), (4, .int a4), (5, .int b5), (6, .int (nI n6))]) hC.x hC.b dX10_goes_211 hl (k := 7) rfl (nI_succ _).symm (by decide) rfl (fun ls hl => ?_)
                              refine lv_goto (tgt := 70) hC.x hC.b dX10_goes_214 (by decide) ?_
                              exact ih_70 (j + 1) s3 (by omega) (by first | omega | assumption) (by exact hA2.1) (by exact hA2.2) hi3_70 _ _ _ hR hS (lv_sub hl [1, 2, 3, 4, 5, 6, 7, 0] rfl)
                      exact L_70 _ 0 s2 (Nat.lt_succ_self _) (by first | omega | assumption) (by exact hi1_60) (by exact hi2_60) hi3_60 _ _ _ hR hS (lv_sub hl [1, 2, 3, 4, 5, 6, 7, 0] rfl)
                exact L_60 _ 0 s_127 (Nat.lt_succ_self _) (by first | omega | assumption) (by exact (bf_st (σ := σ) (hr := hr) (hq := hq) (b := b5.toInt.toNat) (s1 := s1) (by omega) (fun k hk => hi1_27 k (by omega)) es_128 hln).1) (by exact (bf_st (σ := σ) (hr := hr) (hq := hq) (b := b5.toInt.toNat) (s1 := s1) (by omega) (fun k hk => hi1_27 k (by omega)) es_128 hln).2) (by rw [es_128]; exact MRel.up (hi2_27) (by omega) (by first | omega | (dsimp only; omega))) _ _ _ hR hS (lv_sub hl [1, 2, 3, 4, 5, 6, 0] rfl)
              · skip
                refine lv_aload_n hC.x hC.b dX10_goes_34 rfl (lv_at hl 0 rfl) ?_
                refine rget hC hK hR (ct_model G _ _) rfl uin_X10 38 (by decide) TF_X10_117 rfl dX10_goes_35 ?_
                refine lv_iload hC.x hC.b dX10_goes_38 (lv_at hl 6 rfl) ?_
                refine lv_bipush (v := 99) hC.x hC.b dX10_goes_40 (by decide) ?_
                refine ast hC hK hG hR hS (fun _ => ct_m_far G _ _) (nI_T n (by omega)) (by omega) (by omega) (Int.toNat_natCast _) dX10_goes_42 (fun s_247 es_248 H locs hR hS => ?_)
                refine lv_iinc (v := nI (n + 1)) (lv' := [(6, .int (nI (n + 1))), (0, .ref (G.2.1 35)), (1, .int xa), (2, .int ya), (3, .int hr), (4, .int a4), (5, .int b5)]) hC.x hC.b dX10_goes_43 hl (k := 6) rfl (nI_succ _).symm (by decide) rfl (fun ls hl => ?_)
                refine lv_goto (tgt := 27) hC.x hC.b dX10_goes_46 (by decide) ?_
                exact ih_27 (n + 1) s_247 (by omega) (by first | omega | assumption) (by subst es_248; intro k hk; by_cases e9 : k = n; (subst e9; rw [up2_s]; decide); (rw [up2_n e9]; exact hi1_27 k (by omega))) (by rw [es_248]; exact MRel.up (hi2_27) (by omega) (by first | omega | (dsimp only; omega))) _ _ _ hR hS (lv_sub hl [1, 2, 3, 4, 5, 6, 0] rfl)
          exact L_27 _ 0 σ (Nat.lt_succ_self _) (by first | omega | assumption) (by intro k hk; omega) MRel.rf _ _ _ hR hS (lv_sub hl [1, 2, 3, 4, 5, 6, 0] rfl)
      exact L_24 _ ya ya (Nat.lt_succ_self _) (by first | omega | assumption) (by first | omega | assumption) _ _ _ hR hS (lv_sub hl [2, 3, 4, 5, 1, 0] rfl)
  · skip
    refine lv_iload_n hC.x hC.b dX10_goes_5 rfl (lv_at hl 1 rfl) ?_
    refine lv_goto (tgt := 10) hC.x hC.b dX10_goes_6 (by decide) ?_
    refine lv_istore (lv' := [(4, .int xa), (0, .ref (G.2.1 35)), (1, .int xa), (2, .int ya), (3, .int hr)]) hC.x hC.b dX10_goes_10 hl (by decide) rfl (fun ls hl => ?_)
    refine lv_iload_n hC.x hC.b dX10_goes_12 rfl (lv_at hl 2 rfl) ?_
    refine lv_iload_n hC.x hC.b dX10_goes_13 rfl (lv_at hl 3 rfl) ?_
    refine bi_ge (tgt := 21) (a := xa.toInt) (b := ya.toInt) hC.x hC.b rfl rfl dX10_goes_14 (by decide) (fun c_249 => ?_) (fun c_249 => ?_)
    · skip
      refine lv_iload_n hC.x hC.b dX10_goes_21 rfl (lv_at hl 2 rfl) ?_
      refine lv_istore (lv' := [(5, .int xa), (4, .int xa), (0, .ref (G.2.1 35)), (1, .int xa), (2, .int ya), (3, .int hr)]) hC.x hC.b dX10_goes_22 hl (by decide) rfl (fun ls hl => ?_)
      have L_24 : ∀ (F : Nat) (a4 : Int32) (b5 : Int32), 0 < F → (0 ≤ a4.toInt ∧ a4.toInt < 24) → (0 ≤ b5.toInt ∧ b5.toInt < 24) → ∀ (H : Heap) (locs : List Loc) (ls : Array Slot), RepH G σ τ H → va_S A s.heap H locs → lv_has ls 9 [(0, .ref (G.2.1 35)), (1, .int xa), (2, .int ya), (3, .int hr), (4, .int a4), (5, .int b5)] → W p l e (rmD 2) s m args below meth c H locs 0 0 (MQ below (va_Qi (po_X10_goes σ τ xa xq ya yq hr hq) (BU G) A) args s 0 0 A) (F0 m 24 ls []) := by
        intro F
        induction F with
        | zero => intro a4 b5 hm; exact absurd hm (Nat.not_lt_zero _)
        | succ F ih_24 =>
          intro a4 b5 hm_24 hi0_24 hi1_24 H locs ls hR hS hl
          refine lv_iconst (v := 0) hC.x hC.b dX10_goes_24 (by decide) ?_
          refine lv_istore (lv' := [(6, .int (0 : Int32)), (0, .ref (G.2.1 35)), (1, .int xa), (2, .int ya), (3, .int hr), (4, .int a4), (5, .int b5)]) hC.x hC.b dX10_goes_25 hl (by decide) rfl (fun ls hl => ?_)
          have L_27 : ∀ (F : Nat) (n : Nat) (s1 : SI), (24 - n) < F → (n ≤ 24) → (∀ k, k < n → (s1 68 k).toInt = 99) → (MRel (fun k => k = 68 ∨ k = 69) (fun j => j = 41 ∨ j = 43) σ s1) → ∀ (H : Heap) (locs : List Loc) (ls : Array Slot), RepH G s1 τ H → va_S A s.heap H locs → lv_has ls 9 [(0, .ref (G.2.1 35)), (1, .int xa), (2, .int ya), (3, .int hr), (4, .int a4), (5, .int b5), (6, .int (nI n))] → W p l e (rmD 2) s m args below meth c H locs 0 0 (MQ below (va_Qi (po_X10_goes σ τ xa xq ya yq hr hq) (BU G) A) args s 0 0 A) (F0 m 27 ls []) := by
            intro F
            induction F with
            | zero => intro n s1 hm; exact absurd hm (Nat.not_lt_zero _)
            | succ F ih_27 =>
              intro n s1 hm_27 hi0_27 hi1_27 hi2_27 H locs ls hR hS hl
              have hnI := nI_T n (by omega)
              refine lv_iload hC.x hC.b dX10_goes_27 (lv_at hl 6 rfl) ?_
              refine lv_bipush (v := 24) hC.x hC.b dX10_goes_29 (by decide) ?_
              refine bi_ge (tgt := 49) (a := (n : Int)) (b := 24) hC.x hC.b (nI_T n (by omega)) rfl dX10_goes_31 (by decide) (fun c_250 => ?_) (fun c_250 => ?_)
              · skip
                refine lv_aload_n hC.x hC.b dX10_goes_49 rfl (lv_at hl 0 rfl) ?_
                refine rget hC hK hR (ct_model G _ _) rfl uin_X10 38 (by decide) TF_X10_117 rfl dX10_goes_50 ?_
                refine lv_iload hC.x hC.b dX10_goes_53 (lv_at hl 5 rfl) ?_
                refine lv_iconst (v := 0) hC.x hC.b dX10_goes_55 (by decide) ?_
                refine ast hC hK hG hR hS (fun _ => ct_m_far G _ _) rfl (by omega) (by omega) rfl dX10_goes_56 (fun s_251 es_252 H locs hR hS => ?_)
                refine lv_iconst (v := 0) hC.x hC.b dX10_goes_57 (by decide) ?_
                refine lv_istore (lv' := [(6, .int (0 : Int32)), (0, .ref (G.2.1 35)), (1, .int xa), (2, .int ya), (3, .int hr), (4, .int a4), (5, .int b5)]) hC.x hC.b dX10_goes_58 hl (by decide) rfl (fun ls hl => ?_)
                have L_60 : ∀ (F : Nat) (n6 : Nat) (s2 : SI), (24 - n6) < F → (n6 ≤ 24) → (BFI (UM σ hr hq) (xM σ) (yM σ) b5.toInt.toNat (fM s2)) → (BFL (UM σ hr hq) (xM σ) (yM σ) (n6 : Int) 0 (fM s2)) → (MRel (fun k => k = 68 ∨ k = 69) (fun j => j = 41 ∨ j = 43) σ s2) → ∀ (H : Heap) (locs : List Loc) (ls : Array Slot), RepH G s2 τ H → va_S A s.heap H locs → lv_has ls 9 [(0, .ref (G.2.1 35)), (1, .int xa), (2, .int ya), (3, .int hr), (4, .int a4), (5, .int b5), (6, .int (nI n6))] → W p l e (rmD 2) s m args below meth c H locs 0 0 (MQ below (va_Qi (po_X10_goes σ τ xa xq ya yq hr hq) (BU G) A) args s 0 0 A) (F0 m 60 ls []) := by
                  intro F
                  induction F with
                  | zero => intro n6 s2 hm; exact absurd hm (Nat.not_lt_zero _)
                  | succ F ih_60 =>
                    intro n6 s2 hm_60 hi0_60 hi1_60 hi2_60 hi3_60 H locs ls hR hS hl
                    have hnI6 := nI_T n6 (by omega)
                    refine lv_iload hC.x hC.b dX10_goes_60 (lv_at hl 6 rfl) ?_
                    refine lv_bipush (v := 24) hC.x hC.b dX10_goes_62 (by decide) ?_
                    refine bi_ge (tgt := 223) (a := (n6 : Int)) (b := 24) hC.x hC.b (nI_T n6 (by omega)) rfl dX10_goes_64 (by decide) (fun c_253 => ?_) (fun c_253 => ?_)
                    · skip
                      refine lv_aload_n hC.x hC.b dX10_goes_223 rfl (lv_at hl 0 rfl) ?_
                      refine lv_iconst (v := 0) hC.x hC.b dX10_goes_224 (by decide) ?_
                      refine rputi hC hK hG hR hS (ct_model G _ _) rfl uin_X10 tyX10 tyX10_ok nmX10 41 (by decide) TF_X10_155 rfl (Or.inl rfl) (Nat.le_of_ble_eq_true rfl) rfl (ct_model G _ _) dX10_goes_225 (fun s_255 es_254 H locs hR hS => ?_)
                      refine lv_aload_n hC.x hC.b dX10_goes_228 rfl (lv_at hl 0 rfl) ?_
                      refine lv_iconst (v := 0) hC.x hC.b dX10_goes_229 (by decide) ?_
                      refine rputi hC hK hG hR hS (ct_model G _ _) rfl uin_X10 tyX10 tyX10_ok nmX10 43 (by decide) TF_X10_158 rfl (Or.inl rfl) (Nat.le_of_ble_eq_true rfl) rfl (ct_model G _ _) dX10_goes_230 (fun s_257 es_256 H locs hR hS => ?_)
                      refine lv_aload_n hC.x hC.b dX10_goes_233 rfl (lv_at hl 0 rfl) ?_
                      refine rget hC hK hR (ct_model G _ _) rfl uin_X10 38 (by decide) TF_X10_117 rfl dX10_goes_234 ?_
                      refine lv_iload hC.x hC.b dX10_goes_237 (lv_at hl 4 rfl) ?_
                      refine ald hC hK hR (ct_m_far G _ _) rfl (by omega) (by omega) rfl dX10_goes_239 ?_
                      rw [show s_257 68 a4.toInt.toNat = (s2 68 a4.toInt.toNat) from (Eq.trans (show s_257 68 a4.toInt.toNat = s_255 68 a4.toInt.toNat from (by rw [es_256]; exact up2_o (by omega))) (show s_255 68 a4.toInt.toNat = s2 68 a4.toInt.toNat from (by rw [es_254]; exact up2_o (by omega))))]
                      refine lv_bipush (v := 99) hC.x hC.b dX10_goes_240 (by decide) ?_
                      refine bi_lt (tgt := 247) (a := (s2 68 a4.toInt.toNat).toInt) (b := 99) hC.x hC.b rfl rfl dX10_goes_242 (by decide) (fun c_258 => ?_) (fun c_258 => ?_)
                      · skip
                        have rd_259 : (s_257 35 41).toInt = 0 := (congrArg Int32.toInt (Eq.trans (show s_257 35 41 = s_255 35 41 from (by rw [es_256]; exact up2_n (by omega))) (show s_255 35 41 = (0 : Int32) from (by rw [es_254]; exact up2_s)))).trans (by decide)
                        have rd_260 : (s_257 68 a4.toInt.toNat).toInt = (s2 68 a4.toInt.toNat).toInt := congrArg Int32.toInt (Eq.trans (show s_257 68 a4.toInt.toNat = s_255 68 a4.toInt.toNat from (by rw [es_256]; exact up2_o (by omega))) (show s_255 68 a4.toInt.toNat = s2 68 a4.toInt.toNat from (by rw [es_254]; exact up2_o (by omega))))
                        have e24 : (n6 : Int) = 24 := by omega
                        have hL24 : BFL (UM σ hr hq) (xM σ) (yM σ) 24 0 (fM s2) := e24 ▸ hi2_60
                        have h23 : (s2 68 a4.toInt.toNat).toInt ≤ 23 := bf_23 hln.xy hi1_60 hL24 (by omega) (by show (s2 68 a4.toInt.toNat).toInt < 99; omega)
                        refine lv_iload hC.x hC.b dX10_goes_247 (lv_at hl 4 rfl) ?_
                        refine lv_istore (lv' := [(6, .int a4), (0, .ref (G.2.1 35)), (1, .int xa), (2, .int ya), (3, .int hr), (4, .int a4), (5, .int b5)]) hC.x hC.b dX10_goes_249 hl (by decide) rfl (fun ls hl => ?_)
                        have L_251 : ∀ (F : Nat) (h6 : Int32) (s4 : SI), ((s4 68 h6.toInt.toNat).toInt.toNat) < F → (0 ≤ h6.toInt ∧ h6.toInt < 24) → (BFI (UM σ hr hq) (xM σ) (yM σ) b5.toInt.toNat (fM s4)) → (BFL (UM σ hr hq) (xM σ) (yM σ) 24 0 (fM s4)) → (0 ≤ (s4 35 41).toInt) → ((s4 35 41).toInt + (s4 68 h6.toInt.toNat).toInt ≤ 23) → (MRel (fun k => k = 68 ∨ k = 69) (fun j => j = 41 ∨ j = 43) σ s4) → ∀ (H : Heap) (locs : List Loc) (ls : Array Slot), RepH G s4 τ H → va_S A s.heap H locs → lv_has ls 9 [(0, .ref (G.2.1 35)), (1, .int xa), (2, .int ya), (3, .int hr), (5, .int b5), (6, .int h6)] → W p l e (rmD 2) s m args below meth c H locs 0 0 (MQ below (va_Qi (po_X10_goes σ τ xa xq ya yq hr hq) (BU G) A) args s 0 0 A) (F0 m 251 ls []) := by
                          intro F
                          induction F with
                          | zero => intro h6 s4 hm; exact absurd hm (Nat.not_lt_zero _)
                          | succ F ih_251 =>
                            intro h6 s4 hm_251 hi0_251 hi1_251 hi2_251 hi3_251 hi4_251 hi5_251 H locs ls hR hS hl
                            refine lv_iload hC.x hC.b dX10_goes_251 (lv_at hl 5 rfl) ?_
                            refine lv_iload hC.x hC.b dX10_goes_253 (lv_at hl 4 rfl) ?_
                            refine bi_eq (tgt := 398) (a := h6.toInt) (b := b5.toInt) hC.x hC.b rfl rfl dX10_goes_255 (by decide) (fun c_261 => ?_) (fun c_261 => ?_)
                            · skip
                              have hb6 : 0 ≤ (s4 68 h6.toInt.toNat).toInt ∧ (s4 68 h6.toInt.toNat).toInt ≤ 99 := hi1_251.1 _ (by omega)
                              refine lv_iload_n hC.x hC.b dX10_goes_398 rfl (lv_at hl 1 rfl) ?_
                              refine lv_iload_n hC.x hC.b dX10_goes_399 rfl (lv_at hl 2 rfl) ?_
                              refine bi_gt (tgt := 405) (a := xa.toInt) (b := ya.toInt) hC.x hC.b rfl rfl dX10_goes_400 (by decide) (fun c_262 => ?_) (fun c_262 => ?_)
                              · skip
                                refine lv_aload_n hC.x hC.b dX10_goes_405 rfl (lv_at hl 0 rfl) ?_
                                refine lv_aload_n hC.x hC.b dX10_goes_406 rfl (lv_at hl 0 rfl) ?_
                                refine rget hC hK hR (ct_model G _ _) rfl uin_X10 43 (by decide) TF_X10_158 rfl dX10_goes_407 ?_
                                refine lv_ineg hC.x hC.b dX10_goes_410 ?_
                                refine rputi hC hK hG hR hS (ct_model G _ _) rfl uin_X10 tyX10 tyX10_ok nmX10 43 (by decide) TF_X10_158 rfl (Or.inl rfl) (Nat.le_of_ble_eq_true rfl) rfl (ct_model G _ _) dX10_goes_411 (fun s_264 es_263 H locs hR hS => ?_)
                                have rd_265 : (s_264 35 41).toInt = (s4 35 41).toInt := congrArg Int32.toInt (show s_264 35 41 = s4 35 41 from (by rw [es_263]; exact up2_n (by omega)))
                                refine lv_iconst (v := 0) hC.x hC.b dX10_goes_414 (by decide) ?_
                                refine lv_istore (lv' := [(7, .int (0 : Int32)), (0, .ref (G.2.1 35)), (1, .int xa), (2, .int ya), (3, .int hr), (5, .int b5), (6, .int h6)]) hC.x hC.b dX10_goes_415 hl (by decide) rfl (fun ls hl => ?_)
                                have L_417 : ∀ (F : Nat) (n7 : Nat) (s5 : SI), (24 - n7) < F → (n7 ≤ 24) → (0 ≤ (s5 35 41).toInt ∧ (s5 35 41).toInt ≤ 23) → (MRel (fun k => k = 68 ∨ k = 69) (fun j => j = 41 ∨ j = 43) σ s5) → ∀ (H : Heap) (locs : List Loc) (ls : Array Slot), RepH G s5 τ H → va_S A s.heap H locs → lv_has ls 9 [(0, .ref (G.2.1 35)), (7, .int (nI n7))] → W p l e (rmD 2) s m args below meth c H locs 0 0 (MQ below (va_Qi (po_X10_goes σ τ xa xq ya yq hr hq) (BU G) A) args s 0 0 A) (F0 m 417 ls []) := by
                                  intro F
                                  induction F with
                                  | zero => intro n7 s5 hm; exact absurd hm (Nat.not_lt_zero _)
                                  | succ F ih_417 =>
                                    intro n7 s5 hm_417 hi0_417 hi1_417 hi2_417 H locs ls hR hS hl
                                    have hnI := nI_T n7 (by omega)
                                    refine lv_iconst (v := 2) hC.x hC.b dX10_goes_417 (by decide) ?_
                                    refine lv_iload hC.x hC.b dX10_goes_418 (lv_at hl 1 rfl) ?_
                                    refine lv_imul hC.x hC.b dX10_goes_420 ?_
                                    have pr_266 : ((2 : Int32) * (nI n7)).toInt = (2 * (n7 : Int)) := mulI rfl (nI_T n7 (by omega)) (by omega) (by omega)
                                    refine lv_aload_n hC.x hC.b dX10_goes_421 rfl (lv_at hl 0 rfl) ?_
                                    refine rget hC hK hR (ct_model G _ _) rfl uin_X10 41 (by decide) TF_X10_155 rfl dX10_goes_422 ?_
                                    refine lv_iconst (v := 1) hC.x hC.b dX10_goes_425 (by decide) ?_
                                    refine lv_isub hC.x hC.b dX10_goes_426 ?_
                                    have pr_267 : ((s5 35 41) - (1 : Int32)).toInt = ((s5 35 41).toInt - 1) := subI rfl rfl (by omega) (by omega)
                                    refine bi_ge (tgt := 482) (a := (2 * (n7 : Int))) (b := ((s5 35 41).toInt - 1)) hC.x hC.b pr_266 pr_267 dX10_goes_427 (by decide) (fun c_268 => ?_) (fun c_268 => ?_)
                                    · skip
                                      refine lv_iconst (v := 1) hC.x hC.b dX10_goes_482 (by decide) ?_
                                      exact retz hC hK hR hS (Or.inr rfl) (by first | exact Or.inl (⟨by first | rfl | omega, by exact hi2_417, by first | omega | (dsimp only; omega)⟩) | exact False.elim (by omega)) dX10_goes_483
                                    · skip
                                      refine lv_aload_n hC.x hC.b dX10_goes_430 rfl (lv_at hl 0 rfl) ?_
                                      refine rget hC hK hR (ct_model G _ _) rfl uin_X10 39 (by decide) TF_X10_120 rfl dX10_goes_431 ?_
                                      refine lv_iload hC.x hC.b dX10_goes_434 (lv_at hl 1 rfl) ?_
                                      refine ald hC hK hR (ct_m_going G _ _) (nI_T n7 (by omega)) (by omega) (by omega) (Int.toNat_natCast _) dX10_goes_436 ?_
                                      refine lv_istore (lv' := [(8, .int (s5 69 n7)), (0, .ref (G.2.1 35)), (7, .int (nI n7))]) hC.x hC.b dX10_goes_437 hl (by decide) rfl (fun ls hl => ?_)
                                      refine lv_aload_n hC.x hC.b dX10_goes_439 rfl (lv_at hl 1 rfl) ?_
                                      refine rget hC hK hR (ct_model G _ _) rfl uin_X10 39 (by decide) TF_X10_120 rfl dX10_goes_440 ?_
                                      refine lv_iload hC.x hC.b dX10_goes_443 (lv_at hl 2 rfl) ?_
                                      refine lv_aload_n hC.x hC.b dX10_goes_445 rfl (lv_at hl 1 rfl) ?_
                                      refine rget hC hK hR (ct_model G _ _) rfl uin_X10 39 (by decide) TF_X10_120 rfl dX10_goes_446 ?_
                                      refine lv_aload_n hC.x hC.b dX10_goes_449 rfl (lv_at hl 1 rfl) ?_
                                      refine rget hC hK hR (ct_model G _ _) rfl uin_X10 41 (by decide) TF_X10_155 rfl dX10_goes_450 ?_
                                      refine lv_iconst (v := 1) hC.x hC.b dX10_goes_453 (by decide) ?_
                                      refine lv_isub hC.x hC.b dX10_goes_454 ?_
                                      have pr_269 : ((s5 35 41) - (1 : Int32)).toInt = ((s5 35 41).toInt - 1) := subI rfl rfl (by omega) (by omega)
                                      refine lv_iload hC.x hC.b dX10_goes_455 (lv_at hl 2 rfl) ?_
                                      refine lv_isub hC.x hC.b dX10_goes_457 ?_
                                      have pr_270 : (((s5 35 41) - (1 : Int32)) - (nI n7)).toInt = (((s5 35 41).toInt - 1) - (n7 : Int)) := subI pr_269 (nI_T n7 (by omega)) (by omega) (by omega)
                                      refine ald hC hK hR (ct_m_going G _ _) pr_270 (by omega) (by omega) rfl dX10_goes_458 ?_
                                      refine ast hC hK hG hR hS (fun _ => ct_m_going G _ _) (nI_T n7 (by omega)) (by omega) (by omega) (Int.toNat_natCast _) dX10_goes_459 (fun s_271 es_272 H locs hR hS => ?_)
                                      refine lv_aload_n hC.x hC.b dX10_goes_460 rfl (lv_at hl 1 rfl) ?_
                                      refine rget hC hK hR (ct_model G _ _) rfl uin_X10 39 (by decide) TF_X10_120 rfl dX10_goes_461 ?_
                                      refine lv_aload_n hC.x hC.b dX10_goes_464 rfl (lv_at hl 1 rfl) ?_
                                      refine rget hC hK hR (ct_model G _ _) rfl uin_X10 41 (by decide) TF_X10_155 rfl dX10_goes_465 ?_
                                      rw [show s_271 35 41 = (s5 35 41) from (show s_271 35 41 = s5 35 41 from (by rw [es_272]; exact up2_o (by omega)))]
                                      refine lv_iconst (v := 1) hC.x hC.b dX10_goes_468 (by decide) ?_
                                      refine lv_isub hC.x hC.b dX10_goes_469 ?_
                                      have pr_273 : ((s5 35 41) - (1 : Int32)).toInt = ((s5 35 41).toInt - 1) := subI rfl rfl (by omega) (by omega)
                                      refine lv_iload hC.x hC.b dX10_goes_470 (lv_at hl 2 rfl) ?_
                                      refine lv_isub hC.x hC.b dX10_goes_472 ?_
                                      have pr_274 : (((s5 35 41) - (1 : Int32)) - (nI n7)).toInt = (((s5 35 41).toInt - 1) - (n7 : Int)) := subI pr_273 (nI_T n7 (by omega)) (by omega) (by omega)
                                      refine lv_iload hC.x hC.b dX10_goes_473 (lv_at hl 0 rfl) ?_
                                      refine ast hC hK hG hR hS (fun _ => ct_m_going G _ _) pr_274 (by omega) (by omega) rfl dX10_goes_475 (fun s_275 es_276 H locs hR hS => ?_)
                                      have rd_277 : (s_275 35 41).toInt = (s5 35 41).toInt := congrArg Int32.toInt (Eq.trans (show s_275 35 41 = s_271 35 41 from (by rw [es_276]; exact up2_o (by omega))) (show s_271 35 41 = s5 35 41 from (by rw [es_272]; exact up2_o (by omega))))
                                      refine lv_iinc (v := nI (n7 + 1)) (lv' := [(7, .int (nI (n7 + 1))), (8, .int (s5 69 n7)), (0, .ref (G.2.1 35))]) hC.x hC.b dX10_goes_476 hl (k := 2) rfl (nI_succ _).symm (by decide) rfl (fun ls hl => ?_)
                                      refine lv_goto (tgt := 417) hC.x hC.b dX10_goes_479 (by decide) ?_
                                      exact ih_417 (n7 + 1) s_275 (by omega) (by first | omega | assumption) (by first | omega | assumption) (by rw [es_276]; exact MRel.up ((by rw [es_272]; exact MRel.up (hi2_417) (by omega) (by first | omega | (dsimp only; omega)))) (by omega) (by first | omega | (dsimp only; omega))) _ _ _ hR hS (lv_sub hl [2, 0] rfl)
                                exact L_417 _ 0 s_264 (Nat.lt_succ_self _) (by first | omega | assumption) (by first | omega | assumption) (by rw [es_263]; exact MRel.upm (hi5_251) (by first | omega | (dsimp only; omega))) _ _ _ hR hS (lv_sub hl [1, 0] rfl)
                              · skip
                                refine lv_iconst (v := 1) hC.x hC.b dX10_goes_403 (by decide) ?_
                                exact retz hC hK hR hS (Or.inr rfl) (by first | exact Or.inl (⟨by first | rfl | omega, by exact hi5_251, by first | omega | (dsimp only; omega)⟩) | exact False.elim (by omega)) dX10_goes_404
                            · skip
                              refine lv_iconst (v := 0) hC.x hC.b dX10_goes_258 (by decide) ?_
                              refine lv_istore (lv' := [(7, .int (0 : Int32)), (0, .ref (G.2.1 35)), (1, .int xa), (2, .int ya), (3, .int hr), (5, .int b5), (6, .int h6)]) hC.x hC.b dX10_goes_259 hl (by decide) rfl (fun ls hl => ?_)
                              have L_261 : ∀ (F : Nat) (j : Nat), (24 - j) < F → (∃ w0, j ≤ w0 ∧ w0 < 24 ∧ GdM s4 hr hq h6 w0) → ∀ (H : Heap) (locs : List Loc) (ls : Array Slot), RepH G s4 τ H → va_S A s.heap H locs → lv_has ls 9 [(0, .ref (G.2.1 35)), (1, .int xa), (2, .int ya), (3, .int hr), (5, .int b5), (6, .int h6), (7, .int (nI j))] → W p l e (rmD 2) s m args below meth c H locs 0 0 (MQ below (va_Qi (po_X10_goes σ τ xa xq ya yq hr hq) (BU G) A) args s 0 0 A) (F0 m 261 ls []) := by
                                intro F
                                induction F with
                                | zero => intro j hm; exact absurd hm (Nat.not_lt_zero _)
                                | succ F ih_261 =>
                                  intro j hm_261 hi0_261 H locs ls hR hS hl
                                  obtain ⟨lw, lw1, lw2, lw3⟩ := hi0_261
                                  have hnI := nI_T j (by omega)
                                  refine lv_aload_n hC.x hC.b dX10_goes_261 rfl (lv_at hl 0 rfl) ?_
                                  refine lv_iload hC.x hC.b dX10_goes_262 (lv_at hl 6 rfl) ?_
                                  have av_278 : (nI j).toInt = (j : Int) := (nI_T j (by omega))
                                  refine goip (runV (As := [.int (nI j)]) (rest := []) hC hK hR hl.1 (c_X10_isLink l hG s4 τ (nI j) j (by first | rfl | (rw [show (nI j).toInt = (j : Int) from (nI_T j (by omega))]; done) | (rw [show (nI j).toInt = (j : Int) from (nI_T j (by omega))]; exact (Int.toNat_natCast _))) ) (call_b hC.ts TC_X10_isLink TN_X10 TM_X10_148 hd_X10_isLink ⟨Nat.le_of_ble_eq_true rfl, Nat.le_of_ble_eq_true rfl⟩) TI_X10_isLink TS_X10_isLink (ct_model G _ _) rfl rfl rfl (Nat.le_of_ble_eq_true rfl) dX10_goes_264 ⟨Nat.le_of_ble_eq_true rfl, Nat.le_of_ble_eq_true rfl⟩) hS (fun v_279 H locs w_280 hR hS => ?_)
                                  rcases w_280 with ⟨rfl, f_281, f_282⟩ | ⟨rfl, f_283⟩
                                  · skip
                                    refine bz_eq (tgt := 319) (a := 1) (b := 0) hC.x hC.b rfl rfl dX10_goes_267 (by decide) (fun c_284 => absurd c_284 (by decide)) (fun _ => ?_)
                                    refine lv_aload_n hC.x hC.b dX10_goes_270 rfl (lv_at hl 0 rfl) ?_
                                    refine lv_iload hC.x hC.b dX10_goes_271 (lv_at hl 6 rfl) ?_
                                    refine lv_iload_n hC.x hC.b dX10_goes_273 rfl (lv_at hl 3 rfl) ?_
                                    have av_285 : (nI j).toInt = (j : Int) := (nI_T j (by omega))
                                    have rd_286 : (s4 35 29).toInt = (σ 35 29).toInt := congrArg Int32.toInt (show s4 35 29 = σ 35 29 from hi5_251.2 29 (by first | omega | (dsimp only; omega)))
                                    refine goip (runV (As := [.int (nI j), .int hr]) (rest := []) hC hK hR hl.1 (c_X10_told l hG s4 τ (nI j) j (by first | rfl | (rw [show (nI j).toInt = (j : Int) from (nI_T j (by omega))]; done) | (rw [show (nI j).toInt = (j : Int) from (nI_T j (by omega))]; exact (Int.toNat_natCast _))) hr hq (by first | rfl | (rw [show hr.toInt = hr.toInt from rfl]; done) | (rw [show hr.toInt = hr.toInt from rfl]; exact hp_hq)) (by first | assumption | omega) (by omega)) (call_b hC.ts TC_X10_told TN_X10 TM_X10_152 hd_X10_told ⟨Nat.le_of_ble_eq_true rfl, Nat.le_of_ble_eq_true rfl⟩) TI_X10_told TS_X10_told (ct_model G _ _) rfl rfl rfl (Nat.le_of_ble_eq_true rfl) dX10_goes_274 ⟨Nat.le_of_ble_eq_true rfl, Nat.le_of_ble_eq_true rfl⟩) hS (fun v_287 H locs w_288 hR hS => ?_)
                                    subst w_288
                                    refine lv_ldc hC.x hC.b hC.ow (hC.ts _ TK_X10_151) dX10_goes_277 ?_
                                    refine bi_eq (tgt := 319) (a := (toldM s4 j hr hq).toInt) (b := 1000000) hC.x hC.b rfl rfl dX10_goes_279 (by decide) (fun c_289 => ?_) (fun c_289 => ?_)
                                    · skip
                                      refine lv_iinc (v := nI (j + 1)) (lv' := [(7, .int (nI (j + 1))), (0, .ref (G.2.1 35)), (1, .int xa), (2, .int ya), (3, .int hr), (5, .int b5), (6, .int h6)]) hC.x hC.b dX10_goes_319 hl (k := 6) rfl (nI_succ _).symm (by decide) rfl (fun ls hl => ?_)
                                      refine lv_goto (tgt := 261) hC.x hC.b dX10_goes_322 (by decide) ?_
                                      exact ih_261 (j + 1) (by omega) (by refine ⟨lw, ?_, lw2, lw3⟩; rcases Nat.eq_or_lt_of_le lw1 with e9 | e9; (exfalso; subst e9; obtain ⟨g1, g2, g3, g4, g5⟩ := lw3; omega); omega) _ _ _ hR hS (lv_sub hl [1, 2, 3, 4, 5, 6, 0] rfl)
                                    · skip
                                      refine lv_aload_n hC.x hC.b dX10_goes_282 rfl (lv_at hl 0 rfl) ?_
                                      refine lv_iload hC.x hC.b dX10_goes_283 (lv_at hl 6 rfl) ?_
                                      refine lv_iload hC.x hC.b dX10_goes_285 (lv_at hl 5 rfl) ?_
                                      have av_290 : (nI j).toInt = (j : Int) := (nI_T j (by omega))
                                      refine goip (runV (As := [.int (nI j), .int h6]) (rest := []) hC hK hR hl.1 (c_X10_other l hG s4 τ (nI j) j (by first | rfl | (rw [show (nI j).toInt = (j : Int) from (nI_T j (by omega))]; done) | (rw [show (nI j).toInt = (j : Int) from (nI_T j (by omega))]; exact (Int.toNat_natCast _))) h6 (by omega)) (call_b hC.ts TC_X10_other TN_X10 TM_X10_161 hd_X10_other ⟨Nat.le_of_ble_eq_true rfl, Nat.le_of_ble_eq_true rfl⟩) TI_X10_other TS_X10_other (ct_model G _ _) rfl rfl rfl (Nat.le_of_ble_eq_true rfl) dX10_goes_287 ⟨Nat.le_of_ble_eq_true rfl, Nat.le_of_ble_eq_true rfl⟩) hS (fun v_291 H locs w_292 hR hS => ?_)
                                      subst w_292
                                      refine lv_iconst (v := (-1)) hC.x hC.b dX10_goes_290 (by decide) ?_
                                      refine bi_eq (tgt := 319) (a := (otherM s4 j h6).toInt) (b := (-1)) hC.x hC.b rfl rfl dX10_goes_291 (by decide) (fun c_293 => ?_) (fun c_293 => ?_)
                                      · skip
                                        refine lv_iinc (v := nI (j + 1)) (lv' := [(7, .int (nI (j + 1))), (0, .ref (G.2.1 35)), (1, .int xa), (2, .int ya), (3, .int hr), (5, .int b5), (6, .int h6)]) hC.x hC.b dX10_goes_319 hl (k := 6) rfl (nI_succ _).symm (by decide) rfl (fun ls hl => ?_)
                                        refine lv_goto (tgt := 261) hC.x hC.b dX10_goes_322 (by decide) ?_
                                        exact ih_261 (j + 1) (by omega) (by refine ⟨lw, ?_, lw2, lw3⟩; rcases Nat.eq_or_lt_of_le lw1 with e9 | e9; (exfalso; subst e9; obtain ⟨g1, g2, g3, g4, g5⟩ := lw3; omega); omega) _ _ _ hR hS (lv_sub hl [1, 2, 3, 4, 5, 6, 0] rfl)
                                      · skip
                                        have rd_294 : (s4 36 j).toInt = (σ 36 j).toInt := congrArg Int32.toInt (show s4 36 j = σ 36 j from congrFun (hi5_251.1 36 (by omega) (by first | omega | (dsimp only; omega) | (intro h; exact h))) j)
                                        have hlj := hln j (by omega) ⟨by omega, by omega⟩
                                        have hoi := otherM_in (σ := s4) (j := j) (h6 := h6) (by rw [hi5_251.1 37 (by omega) (by omega), hi5_251.1 38 (by omega) (by omega)]; exact hlj) (by omega)
                                        have hb6 : 0 ≤ (s4 68 h6.toInt.toNat).toInt ∧ (s4 68 h6.toInt.toNat).toInt ≤ 99 := hi1_251.1 _ (by omega)
                                        have hbo : 0 ≤ (s4 68 (otherM s4 j h6).toInt.toNat).toInt ∧ (s4 68 (otherM s4 j h6).toInt.toNat).toInt ≤ 99 := hi1_251.1 _ (by omega)
                                        refine lv_aload_n hC.x hC.b dX10_goes_294 rfl (lv_at hl 0 rfl) ?_
                                        refine rget hC hK hR (ct_model G _ _) rfl uin_X10 38 (by decide) TF_X10_117 rfl dX10_goes_295 ?_
                                        refine lv_aload_n hC.x hC.b dX10_goes_298 rfl (lv_at hl 0 rfl) ?_
                                        refine lv_iload hC.x hC.b dX10_goes_299 (lv_at hl 6 rfl) ?_
                                        refine lv_iload hC.x hC.b dX10_goes_301 (lv_at hl 5 rfl) ?_
                                        have av_295 : (nI j).toInt = (j : Int) := (nI_T j (by omega))
                                        refine goip (runV (As := [.int (nI j), .int h6]) (rest := [.ref (G.2.1 68)]) hC hK hR hl.1 (c_X10_other l hG s4 τ (nI j) j (by first | rfl | (rw [show (nI j).toInt = (j : Int) from (nI_T j (by omega))]; done) | (rw [show (nI j).toInt = (j : Int) from (nI_T j (by omega))]; exact (Int.toNat_natCast _))) h6 (by omega)) (call_b hC.ts TC_X10_other TN_X10 TM_X10_161 hd_X10_other ⟨Nat.le_of_ble_eq_true rfl, Nat.le_of_ble_eq_true rfl⟩) TI_X10_other TS_X10_other (ct_model G _ _) rfl rfl rfl (Nat.le_of_ble_eq_true rfl) dX10_goes_303 ⟨Nat.le_of_ble_eq_true rfl, Nat.le_of_ble_eq_true rfl⟩) hS (fun v_296 H locs w_297 hR hS => ?_)
                                        subst w_297
                                        refine ald hC hK hR (ct_m_far G _ _) rfl (by omega) (by omega) rfl dX10_goes_306 ?_
                                        refine lv_aload_n hC.x hC.b dX10_goes_307 rfl (lv_at hl 0 rfl) ?_
                                        refine rget hC hK hR (ct_model G _ _) rfl uin_X10 38 (by decide) TF_X10_117 rfl dX10_goes_308 ?_
                                        refine lv_iload hC.x hC.b dX10_goes_311 (lv_at hl 5 rfl) ?_
                                        refine ald hC hK hR (ct_m_far G _ _) rfl (by omega) (by omega) rfl dX10_goes_313 ?_
                                        refine lv_iconst (v := 1) hC.x hC.b dX10_goes_314 (by decide) ?_
                                        refine lv_isub hC.x hC.b dX10_goes_315 ?_
                                        have pr_298 : ((s4 68 h6.toInt.toNat) - (1 : Int32)).toInt = ((s4 68 h6.toInt.toNat).toInt - 1) := subI rfl rfl (by omega) (by omega)
                                        refine bi_eq (tgt := 325) (a := (s4 68 (((otherM s4 j h6).toInt).toNat)).toInt) (b := ((s4 68 h6.toInt.toNat).toInt - 1)) hC.x hC.b rfl pr_298 dX10_goes_316 (by decide) (fun c_299 => ?_) (fun c_299 => ?_)
                                        · skip
                                          refine lv_aload_n hC.x hC.b dX10_goes_325 rfl (lv_at hl 0 rfl) ?_
                                          refine lv_dup hC.x hC.b dX10_goes_326 rfl ?_
                                          refine rget hC hK hR (ct_model G _ _) rfl uin_X10 43 (by decide) TF_X10_158 rfl dX10_goes_327 ?_
                                          refine lv_aload_n hC.x hC.b dX10_goes_330 rfl (lv_at hl 0 rfl) ?_
                                          refine rget hC hK hR (ct_model G _ _) rfl uin_X10 1 (by decide) TF_X10_13 rfl dX10_goes_331 ?_
                                          refine lv_iload hC.x hC.b dX10_goes_334 (lv_at hl 6 rfl) ?_
                                          refine ald hC hK hR (ct_m_one G _ _) (nI_T j (by omega)) (by omega) (by omega) (Int.toNat_natCast _) dX10_goes_336 ?_
                                          rw [show s4 37 j = (σ 37 j) from (show s4 37 j = σ 37 j from congrFun (hi5_251.1 37 (by omega) (by first | omega | (dsimp only; omega) | (intro h; exact h))) j)]
                                          refine lv_iload hC.x hC.b dX10_goes_337 (lv_at hl 5 rfl) ?_
                                          refine bi_ne (tgt := 352) (a := (σ 37 j).toInt) (b := h6.toInt) hC.x hC.b rfl rfl dX10_goes_339 (by decide) (fun c_300 => ?_) (fun c_300 => ?_)
                                          · skip
                                            refine lv_aload_n hC.x hC.b dX10_goes_352 rfl (lv_at hl 0 rfl) ?_
                                            refine lv_iload hC.x hC.b dX10_goes_353 (lv_at hl 6 rfl) ?_
                                            refine lv_iload_n hC.x hC.b dX10_goes_355 rfl (lv_at hl 3 rfl) ?_
                                            have av_301 : (nI j).toInt = (j : Int) := (nI_T j (by omega))
                                            have rd_302 : (s4 35 29).toInt = (σ 35 29).toInt := congrArg Int32.toInt (show s4 35 29 = σ 35 29 from hi5_251.2 29 (by first | omega | (dsimp only; omega)))
                                            refine goip (runV (As := [.int (nI j), .int hr]) (rest := [.int (s4 35 43), .ref (G.2.1 35)]) hC hK hR hl.1 (c_X10_told l hG s4 τ (nI j) j (by first | rfl | (rw [show (nI j).toInt = (j : Int) from (nI_T j (by omega))]; done) | (rw [show (nI j).toInt = (j : Int) from (nI_T j (by omega))]; exact (Int.toNat_natCast _))) hr hq (by first | rfl | (rw [show hr.toInt = hr.toInt from rfl]; done) | (rw [show hr.toInt = hr.toInt from rfl]; exact hp_hq)) (by first | assumption | omega) (by omega)) (call_b hC.ts TC_X10_told TN_X10 TM_X10_152 hd_X10_told ⟨Nat.le_of_ble_eq_true rfl, Nat.le_of_ble_eq_true rfl⟩) TI_X10_told TS_X10_told (ct_model G _ _) rfl rfl rfl (Nat.le_of_ble_eq_true rfl) dX10_goes_356 ⟨Nat.le_of_ble_eq_true rfl, Nat.le_of_ble_eq_true rfl⟩) hS (fun v_303 H locs w_304 hR hS => ?_)
                                            subst w_304
                                            refine lv_ineg hC.x hC.b dX10_goes_359 ?_
                                            refine lv_iadd hC.x hC.b dX10_goes_360 ?_
                                            refine rputi hC hK hG hR hS (ct_model G _ _) rfl uin_X10 tyX10 tyX10_ok nmX10 43 (by decide) TF_X10_158 rfl (Or.inl rfl) (Nat.le_of_ble_eq_true rfl) rfl (ct_model G _ _) dX10_goes_361 (fun s_306 es_305 H locs hR hS => ?_)
                                            refine lv_aload_n hC.x hC.b dX10_goes_364 rfl (lv_at hl 0 rfl) ?_
                                            refine rget hC hK hR (ct_model G _ _) rfl uin_X10 39 (by decide) TF_X10_120 rfl dX10_goes_365 ?_
                                            refine lv_aload_n hC.x hC.b dX10_goes_368 rfl (lv_at hl 0 rfl) ?_
                                            refine rget hC hK hR (ct_model G _ _) rfl uin_X10 41 (by decide) TF_X10_155 rfl dX10_goes_369 ?_
                                            rw [show s_306 35 41 = (s4 35 41) from (show s_306 35 41 = s4 35 41 from (by rw [es_305]; exact up2_n (by omega)))]
                                            refine lv_iload hC.x hC.b dX10_goes_372 (lv_at hl 6 rfl) ?_
                                            refine ast hC hK hG hR hS (fun _ => ct_m_going G _ _) rfl (by omega) (by omega) rfl dX10_goes_374 (fun s_307 es_308 H locs hR hS => ?_)
                                            refine lv_aload_n hC.x hC.b dX10_goes_375 rfl (lv_at hl 0 rfl) ?_
                                            refine lv_dup hC.x hC.b dX10_goes_376 rfl ?_
                                            refine rget hC hK hR (ct_model G _ _) rfl uin_X10 41 (by decide) TF_X10_155 rfl dX10_goes_377 ?_
                                            rw [show s_307 35 41 = (s4 35 41) from (Eq.trans (show s_307 35 41 = s_306 35 41 from (by rw [es_308]; exact up2_o (by omega))) (show s_306 35 41 = s4 35 41 from (by rw [es_305]; exact up2_n (by omega))))]
                                            refine lv_iconst (v := 1) hC.x hC.b dX10_goes_380 (by decide) ?_
                                            refine lv_iadd hC.x hC.b dX10_goes_381 ?_
                                            have pr_309 : ((s4 35 41) + (1 : Int32)).toInt = ((s4 35 41).toInt + 1) := addI rfl rfl (by omega) (by omega)
                                            refine rputi hC hK hG hR hS (ct_model G _ _) rfl uin_X10 tyX10 tyX10_ok nmX10 41 (by decide) TF_X10_155 rfl (Or.inl rfl) (Nat.le_of_ble_eq_true rfl) rfl (ct_model G _ _) dX10_goes_382 (fun s_311 es_310 H locs hR hS => ?_)
                                            refine lv_aload_n hC.x hC.b dX10_goes_385 rfl (lv_at hl 0 rfl) ?_
                                            refine lv_iload hC.x hC.b dX10_goes_386 (lv_at hl 6 rfl) ?_
                                            refine lv_iload hC.x hC.b dX10_goes_388 (lv_at hl 5 rfl) ?_
                                            have av_312 : (nI j).toInt = (j : Int) := (nI_T j (by omega))
                                            refine goip (runV (As := [.int (nI j), .int h6]) (rest := []) hC hK hR hl.1 (c_X10_other l hG s_311 τ (nI j) j (by first | rfl | (rw [show (nI j).toInt = (j : Int) from (nI_T j (by omega))]; done) | (rw [show (nI j).toInt = (j : Int) from (nI_T j (by omega))]; exact (Int.toNat_natCast _))) h6 (by omega)) (call_b hC.ts TC_X10_other TN_X10 TM_X10_161 hd_X10_other ⟨Nat.le_of_ble_eq_true rfl, Nat.le_of_ble_eq_true rfl⟩) TI_X10_other TS_X10_other (ct_model G _ _) rfl rfl rfl (Nat.le_of_ble_eq_true rfl) dX10_goes_390 ⟨Nat.le_of_ble_eq_true rfl, Nat.le_of_ble_eq_true rfl⟩) hS (fun v_313 H locs w_314 hR hS => ?_)
                                            subst w_314
                                            have hoe : otherM s_311 j h6 = otherM s4 j h6 := by subst es_310; subst es_308; subst es_305; rfl
                                            refine lv_topi (fun x_315 ex_316 => ?_)
                                            refine lv_istore (lv' := [(6, .int x_315), (0, .ref (G.2.1 35)), (1, .int xa), (2, .int ya), (3, .int hr), (5, .int b5), (7, .int (nI j))]) hC.x hC.b dX10_goes_393 hl (by decide) rfl (fun ls hl => ?_)
                                            have rd_317 : (s_311 35 41).toInt = ((s4 35 41) + (1 : Int32)).toInt := congrArg Int32.toInt (show s_311 35 41 = ((s4 35 41) + (1 : Int32)) from (by rw [es_310]; exact up2_s))
                                            have rd_318 : (s_311 68 x_315.toInt.toNat).toInt = (s4 68 x_315.toInt.toNat).toInt := congrArg Int32.toInt (Eq.trans (show s_311 68 x_315.toInt.toNat = s_307 68 x_315.toInt.toNat from (by rw [es_310]; exact up2_o (by omega))) (Eq.trans (show s_307 68 x_315.toInt.toNat = s_306 68 x_315.toInt.toNat from (by rw [es_308]; exact up2_o (by omega))) (show s_306 68 x_315.toInt.toNat = s4 68 x_315.toInt.toNat from (by rw [es_305]; exact up2_o (by omega)))))
                                            have hx6 : x_315.toInt = (otherM s4 j h6).toInt := by rw [ex_316, hoe]
                                            have hx7 : (s4 68 x_315.toInt.toNat).toInt = (s4 68 (otherM s4 j h6).toInt.toNat).toInt := by rw [hx6]
                                            refine lv_goto (tgt := 251) hC.x hC.b dX10_goes_395 (by decide) ?_
                                            exact ih_251 x_315 s_311 (by omega) (by first | omega | assumption) (by subst es_310; subst es_308; subst es_305; exact hi1_251) (by subst es_310; subst es_308; subst es_305; exact hi2_251) (by first | omega | assumption) (by first | omega | assumption) (by rw [es_310]; exact MRel.upm ((by rw [es_308]; exact MRel.up ((by rw [es_305]; exact MRel.upm (hi5_251) (by first | omega | (dsimp only; omega)))) (by omega) (by first | omega | (dsimp only; omega)))) (by first | omega | (dsimp only; omega))) _ _ _ hR hS (lv_sub hl [1, 2, 3, 4, 5, 0] rfl)
                                          · skip
                                            refine lv_aload_n hC.x hC.b dX10_goes_342 rfl (lv_at hl 0 rfl) ?_
                                            refine lv_iload hC.x hC.b dX10_goes_343 (lv_at hl 6 rfl) ?_
                                            refine lv_iload_n hC.x hC.b dX10_goes_345 rfl (lv_at hl 3 rfl) ?_
                                            have av_319 : (nI j).toInt = (j : Int) := (nI_T j (by omega))
                                            have rd_320 : (s4 35 29).toInt = (σ 35 29).toInt := congrArg Int32.toInt (show s4 35 29 = σ 35 29 from hi5_251.2 29 (by first | omega | (dsimp only; omega)))
                                            refine goip (runV (As := [.int (nI j), .int hr]) (rest := [.int (s4 35 43), .ref (G.2.1 35)]) hC hK hR hl.1 (c_X10_told l hG s4 τ (nI j) j (by first | rfl | (rw [show (nI j).toInt = (j : Int) from (nI_T j (by omega))]; done) | (rw [show (nI j).toInt = (j : Int) from (nI_T j (by omega))]; exact (Int.toNat_natCast _))) hr hq (by first | rfl | (rw [show hr.toInt = hr.toInt from rfl]; done) | (rw [show hr.toInt = hr.toInt from rfl]; exact hp_hq)) (by first | assumption | omega) (by omega)) (call_b hC.ts TC_X10_told TN_X10 TM_X10_152 hd_X10_told ⟨Nat.le_of_ble_eq_true rfl, Nat.le_of_ble_eq_true rfl⟩) TI_X10_told TS_X10_told (ct_model G _ _) rfl rfl rfl (Nat.le_of_ble_eq_true rfl) dX10_goes_346 ⟨Nat.le_of_ble_eq_true rfl, Nat.le_of_ble_eq_true rfl⟩) hS (fun v_321 H locs w_322 hR hS => ?_)
                                            subst w_322
                                            refine lv_goto (tgt := 360) hC.x hC.b dX10_goes_349 (by decide) ?_
                                            refine lv_iadd hC.x hC.b dX10_goes_360 ?_
                                            refine rputi hC hK hG hR hS (ct_model G _ _) rfl uin_X10 tyX10 tyX10_ok nmX10 43 (by decide) TF_X10_158 rfl (Or.inl rfl) (Nat.le_of_ble_eq_true rfl) rfl (ct_model G _ _) dX10_goes_361 (fun s_324 es_323 H locs hR hS => ?_)
                                            refine lv_aload_n hC.x hC.b dX10_goes_364 rfl (lv_at hl 0 rfl) ?_
                                            refine rget hC hK hR (ct_model G _ _) rfl uin_X10 39 (by decide) TF_X10_120 rfl dX10_goes_365 ?_
                                            refine lv_aload_n hC.x hC.b dX10_goes_368 rfl (lv_at hl 0 rfl) ?_
                                            refine rget hC hK hR (ct_model G _ _) rfl uin_X10 41 (by decide) TF_X10_155 rfl dX10_goes_369 ?_
                                            rw [show s_324 35 41 = (s4 35 41) from (show s_324 35 41 = s4 35 41 from (by rw [es_323]; exact up2_n (by omega)))]
                                            refine lv_iload hC.x hC.b dX10_goes_372 (lv_at hl 6 rfl) ?_
                                            refine ast hC hK hG hR hS (fun _ => ct_m_going G _ _) rfl (by omega) (by omega) rfl dX10_goes_374 (fun s_325 es_326 H locs hR hS => ?_)
                                            refine lv_aload_n hC.x hC.b dX10_goes_375 rfl (lv_at hl 0 rfl) ?_
                                            refine lv_dup hC.x hC.b dX10_goes_376 rfl ?_
                                            refine rget hC hK hR (ct_model G _ _) rfl uin_X10 41 (by decide) TF_X10_155 rfl dX10_goes_377 ?_
                                            rw [show s_325 35 41 = (s4 35 41) from (Eq.trans (show s_325 35 41 = s_324 35 41 from (by rw [es_326]; exact up2_o (by omega))) (show s_324 35 41 = s4 35 41 from (by rw [es_323]; exact up2_n (by omega))))]
                                            refine lv_iconst (v := 1) hC.x hC.b dX10_goes_380 (by decide) ?_
                                            refine lv_iadd hC.x hC.b dX10_goes_381 ?_
                                            have pr_327 : ((s4 35 41) + (1 : Int32)).toInt = ((s4 35 41).toInt + 1) := addI rfl rfl (by omega) (by omega)
                                            refine rputi hC hK hG hR hS (ct_model G _ _) rfl uin_X10 tyX10 tyX10_ok nmX10 41 (by decide) TF_X10_155 rfl (Or.inl rfl) (Nat.le_of_ble_eq_true rfl) rfl (ct_model G _ _) dX10_goes_382 (fun s_329 es_328 H locs hR hS => ?_)
                                            refine lv_aload_n hC.x hC.b dX10_goes_385 rfl (lv_at hl 0 rfl) ?_
                                            refine lv_iload hC.x hC.b dX10_goes_386 (lv_at hl 6 rfl) ?_
                                            refine lv_iload hC.x hC.b dX10_goes_388 (lv_at hl 5 rfl) ?_
                                            have av_330 : (nI j).toInt = (j : Int) := (nI_T j (by omega))
                                            refine goip (runV (As := [.int (nI j), .int h6]) (rest := []) hC hK hR hl.1 (c_X10_other l hG s_329 τ (nI j) j (by first | rfl | (rw [show (nI j).toInt = (j : Int) from (nI_T j (by omega))]; done) | (rw [show (nI j).toInt = (j : Int) from (nI_T j (by omega))]; exact (Int.toNat_natCast _))) h6 (by omega)) (call_b hC.ts TC_X10_other TN_X10 TM_X10_161 hd_X10_other ⟨Nat.le_of_ble_eq_true rfl, Nat.le_of_ble_eq_true rfl⟩) TI_X10_other TS_X10_other (ct_model G _ _) rfl rfl rfl (Nat.le_of_ble_eq_true rfl) dX10_goes_390 ⟨Nat.le_of_ble_eq_true rfl, Nat.le_of_ble_eq_true rfl⟩) hS (fun v_331 H locs w_332 hR hS => ?_)
                                            subst w_332
                                            have hoe : otherM s_329 j h6 = otherM s4 j h6 := by subst es_328; subst es_326; subst es_323; rfl
                                            refine lv_topi (fun x_333 ex_334 => ?_)
                                            refine lv_istore (lv' := [(6, .int x_333), (0, .ref (G.2.1 35)), (1, .int xa), (2, .int ya), (3, .int hr), (5, .int b5), (7, .int (nI j))]) hC.x hC.b dX10_goes_393 hl (by decide) rfl (fun ls hl => ?_)
                                            have rd_335 : (s_329 35 41).toInt = ((s4 35 41) + (1 : Int32)).toInt := congrArg Int32.toInt (show s_329 35 41 = ((s4 35 41) + (1 : Int32)) from (by rw [es_328]; exact up2_s))
                                            have rd_336 : (s_329 68 x_333.toInt.toNat).toInt = (s4 68 x_333.toInt.toNat).toInt := congrArg Int32.toInt (Eq.trans (show s_329 68 x_333.toInt.toNat = s_325 68 x_333.toInt.toNat from (by rw [es_328]; exact up2_o (by omega))) (Eq.trans (show s_325 68 x_333.toInt.toNat = s_324 68 x_333.toInt.toNat from (by rw [es_326]; exact up2_o (by omega))) (show s_324 68 x_333.toInt.toNat = s4 68 x_333.toInt.toNat from (by rw [es_323]; exact up2_o (by omega)))))
                                            have hx6 : x_333.toInt = (otherM s4 j h6).toInt := by rw [ex_334, hoe]
                                            have hx7 : (s4 68 x_333.toInt.toNat).toInt = (s4 68 (otherM s4 j h6).toInt.toNat).toInt := by rw [hx6]
                                            refine lv_goto (tgt := 251) hC.x hC.b dX10_goes_395 (by decide) ?_
                                            exact ih_251 x_333 s_329 (by omega) (by first | omega | assumption) (by subst es_328; subst es_326; subst es_323; exact hi1_251) (by subst es_328; subst es_326; subst es_323; exact hi2_251) (by first | omega | assumption) (by first | omega | assumption) (by rw [es_328]; exact MRel.upm ((by rw [es_326]; exact MRel.up ((by rw [es_323]; exact MRel.upm (hi5_251) (by first | omega | (dsimp only; omega)))) (by omega) (by first | omega | (dsimp only; omega)))) (by first | omega | (dsimp only; omega))) _ _ _ hR hS (lv_sub hl [1, 2, 3, 4, 5, 0] rfl)
                                        · skip
                                          refine lv_iinc (v := nI (j + 1)) (lv' := [(7, .int (nI (j + 1))), (0, .ref (G.2.1 35)), (1, .int xa), (2, .int ya), (3, .int hr), (5, .int b5), (6, .int h6)]) hC.x hC.b dX10_goes_319 hl (k := 6) rfl (nI_succ _).symm (by decide) rfl (fun ls hl => ?_)
                                          refine lv_goto (tgt := 261) hC.x hC.b dX10_goes_322 (by decide) ?_
                                          exact ih_261 (j + 1) (by omega) (by refine ⟨lw, ?_, lw2, lw3⟩; rcases Nat.eq_or_lt_of_le lw1 with e9 | e9; (exfalso; subst e9; obtain ⟨g1, g2, g3, g4, g5⟩ := lw3; omega); omega) _ _ _ hR hS (lv_sub hl [1, 2, 3, 4, 5, 6, 0] rfl)
                                  · skip
                                    refine bz_eq (tgt := 319) (a := 0) (b := 0) hC.x hC.b rfl rfl dX10_goes_267 (by decide) (fun _ => ?_) (fun c_337 => absurd c_337 (by decide))
                                    refine lv_iinc (v := nI (j + 1)) (lv' := [(7, .int (nI (j + 1))), (0, .ref (G.2.1 35)), (1, .int xa), (2, .int ya), (3, .int hr), (5, .int b5), (6, .int h6)]) hC.x hC.b dX10_goes_319 hl (k := 6) rfl (nI_succ _).symm (by decide) rfl (fun ls hl => ?_)
                                    refine lv_goto (tgt := 261) hC.x hC.b dX10_goes_322 (by decide) ?_
                                    exact ih_261 (j + 1) (by omega) (by refine ⟨lw, ?_, lw2, lw3⟩; rcases Nat.eq_or_lt_of_le lw1 with e9 | e9; (exfalso; subst e9; obtain ⟨g1, g2, g3, g4, g5⟩ := lw3; omega); omega) _ _ _ hR hS (lv_sub hl [1, 2, 3, 4, 5, 6, 0] rfl)
                              exact L_261 _ 0 (Nat.lt_succ_self _) (by exact gd_ex hln hi5_251 hi1_251 hi2_251 hi0_251 (by omega) (by have hb6 := (hi1_251.1 h6.toInt.toNat (by omega)); omega)) _ _ _ hR hS (lv_sub hl [1, 2, 3, 4, 5, 6, 0] rfl)
                        exact L_251 _ a4 s_257 (Nat.lt_succ_self _) (by first | omega | assumption) (by subst es_256; subst es_254; exact hi1_60) (by subst es_256; subst es_254; exact hL24) (by first | omega | assumption) (by first | omega | assumption) (by rw [es_256]; exact MRel.upm ((by rw [es_254]; exact MRel.upm (hi3_60) (by first | omega | (dsimp only; omega)))) (by first | omega | (dsimp only; omega))) _ _ _ hR hS (lv_sub hl [1, 2, 3, 4, 6, 0] rfl)
                      · skip
                        refine lv_iconst (v := 0) hC.x hC.b dX10_goes_245 (by decide) ?_
                        have rd_338 : (s_257 35 41).toInt = 0 := (congrArg Int32.toInt (Eq.trans (show s_257 35 41 = s_255 35 41 from (by rw [es_256]; exact up2_n (by omega))) (show s_255 35 41 = (0 : Int32) from (by rw [es_254]; exact up2_s)))).trans (by decide)
                        exact retz hC hK hR hS (Or.inl rfl) (by first | exact Or.inr ((⟨by subst es_256; subst es_254; (first | rfl | omega), by exact (by rw [es_256]; exact MRel.upm ((by rw [es_254]; exact MRel.upm (hi3_60) (by first | omega | (dsimp only; omega)))) (by first | omega | (dsimp only; omega))), by first | omega | (dsimp only; omega)⟩)) | exact False.elim (by omega)) dX10_goes_246
                    · skip
                      refine lv_iconst (v := 0) hC.x hC.b dX10_goes_67 (by decide) ?_
                      refine lv_istore (lv' := [(7, .int (0 : Int32)), (0, .ref (G.2.1 35)), (1, .int xa), (2, .int ya), (3, .int hr), (4, .int a4), (5, .int b5), (6, .int (nI n6))]) hC.x hC.b dX10_goes_68 hl (by decide) rfl (fun ls hl => ?_)
                      have L_70 : ∀ (F : Nat) (j : Nat) (s3 : SI), (24 - j) < F → (j ≤ 24) → (BFI (UM σ hr hq) (xM σ) (yM σ) b5.toInt.toNat (fM s3)) → (BFL (UM σ hr hq) (xM σ) (yM σ) (n6 : Int) j (fM s3)) → (MRel (fun k => k = 68 ∨ k = 69) (fun j => j = 41 ∨ j = 43) σ s3) → ∀ (H : Heap) (locs : List Loc) (ls : Array Slot), RepH G s3 τ H → va_S A s.heap H locs → lv_has ls 9 [(0, .ref (G.2.1 35)), (1, .int xa), (2, .int ya), (3, .int hr), (4, .int a4), (5, .int b5), (6, .int (nI n6)), (7, .int (nI j))] → W p l e (rmD 2) s m args below meth c H locs 0 0 (MQ below (va_Qi (po_X10_goes σ τ xa xq ya yq hr hq) (BU G) A) args s 0 0 A) (F0 m 70 ls []) := by
                        intro F
                        induction F with
                        | zero => intro j s3 hm; exact absurd hm (Nat.not_lt_zero _)
                        | succ F ih_70 =>
                          intro j s3 hm_70 hi0_70 hi1_70 hi2_70 hi3_70 H locs ls hR hS hl
                          have hnI := nI_T j (by omega)
                          refine lv_iload hC.x hC.b dX10_goes_70 (lv_at hl 7 rfl) ?_
                          refine lv_bipush (v := 24) hC.x hC.b dX10_goes_72 (by decide) ?_
                          refine bi_ge (tgt := 217) (a := (j : Int)) (b := 24) hC.x hC.b (nI_T j (by omega)) rfl dX10_goes_74 (by decide) (fun c_339 => ?_) (fun c_339 => ?_)
                          · skip
                            refine lv_iinc (v := nI (n6 + 1)) (lv' := [(6, .int (nI (n6 + 1))), (0, .ref (G.2.1 35)), (1, .int xa), (2, .int ya), (3, .int hr), (4, .int a4), (5, .int b5), (7, .int (nI j))]) hC.x hC.b dX10_goes_217 hl (k := 6) rfl (nI_succ _).symm (by decide) rfl (fun ls hl => ?_)
                            refine lv_goto (tgt := 60) hC.x hC.b dX10_goes_220 (by decide) ?_
                            exact ih_60 (n6 + 1) s3 (by omega) (by first | omega | assumption) (by exact hi1_70) (by (have hj : j = 24 := by omega); subst hj; rw [show (((n6 + 1 : Nat)) : Int) = (n6 : Int) + 1 by omega]; exact hi2_70.rd) hi3_70 _ _ _ hR hS (lv_sub hl [1, 2, 3, 4, 5, 6, 0] rfl)
                          · skip
                            refine lv_aload_n hC.x hC.b dX10_goes_77 rfl (lv_at hl 0 rfl) ?_
                            refine lv_iload hC.x hC.b dX10_goes_78 (lv_at hl 7 rfl) ?_
                            have av_340 : (nI j).toInt = (j : Int) := (nI_T j (by omega))
                            refine goip (runV (As := [.int (nI j)]) (rest := []) hC hK hR hl.1 (c_X10_isLink l hG s3 τ (nI j) j (by first | rfl | (rw [show (nI j).toInt = (j : Int) from (nI_T j (by omega))]; done) | (rw [show (nI j).toInt = (j : Int) from (nI_T j (by omega))]; exact (Int.toNat_natCast _))) ) (call_b hC.ts TC_X10_isLink TN_X10 TM_X10_148 hd_X10_isLink ⟨Nat.le_of_ble_eq_true rfl, Nat.le_of_ble_eq_true rfl⟩) TI_X10_isLink TS_X10_isLink (ct_model G _ _) rfl rfl rfl (Nat.le_of_ble_eq_true rfl) dX10_goes_80 ⟨Nat.le_of_ble_eq_true rfl, Nat.le_of_ble_eq_true rfl⟩) hS (fun v_341 H locs w_342 hR hS => ?_)
                            rcases w_342 with ⟨rfl, f_343, f_344⟩ | ⟨rfl, f_345⟩
                            · skip
                              refine bz_eq (tgt := 211) (a := 1) (b := 0) hC.x hC.b rfl rfl dX10_goes_83 (by decide) (fun c_346 => absurd c_346 (by decide)) (fun _ => ?_)
                              refine lv_aload_n hC.x hC.b dX10_goes_86 rfl (lv_at hl 0 rfl) ?_
                              refine lv_iload hC.x hC.b dX10_goes_87 (lv_at hl 7 rfl) ?_
                              refine lv_iload_n hC.x hC.b dX10_goes_89 rfl (lv_at hl 3 rfl) ?_
                              have av_347 : (nI j).toInt = (j : Int) := (nI_T j (by omega))
                              have rd_348 : (s3 35 29).toInt = (σ 35 29).toInt := congrArg Int32.toInt (show s3 35 29 = σ 35 29 from hi3_70.2 29 (by first | omega | (dsimp only; omega)))
                              refine goip (runV (As := [.int (nI j), .int hr]) (rest := []) hC hK hR hl.1 (c_X10_told l hG s3 τ (nI j) j (by first | rfl | (rw [show (nI j).toInt = (j : Int) from (nI_T j (by omega))]; done) | (rw [show (nI j).toInt = (j : Int) from (nI_T j (by omega))]; exact (Int.toNat_natCast _))) hr hq (by first | rfl | (rw [show hr.toInt = hr.toInt from rfl]; done) | (rw [show hr.toInt = hr.toInt from rfl]; exact hp_hq)) (by first | assumption | omega) (by omega)) (call_b hC.ts TC_X10_told TN_X10 TM_X10_152 hd_X10_told ⟨Nat.le_of_ble_eq_true rfl, Nat.le_of_ble_eq_true rfl⟩) TI_X10_told TS_X10_told (ct_model G _ _) rfl rfl rfl (Nat.le_of_ble_eq_true rfl) dX10_goes_90 ⟨Nat.le_of_ble_eq_true rfl, Nat.le_of_ble_eq_true rfl⟩) hS (fun v_349 H locs w_350 hR hS => ?_)
                              subst w_350
                              refine lv_ldc hC.x hC.b hC.ow (hC.ts _ TK_X10_151) dX10_goes_93 ?_
                              refine bi_ne (tgt := 101) (a := (toldM s3 j hr hq).toInt) (b := 1000000) hC.x hC.b rfl rfl dX10_goes_95 (by decide) (fun c_351 => ?_) (fun c_351 => ?_)
                              · skip
                                have rd_352 : (s3 36 j).toInt = (σ 36 j).toInt := congrArg Int32.toInt (show s3 36 j = σ 36 j from congrFun (hi3_70.1 36 (by omega) (by first | omega | (dsimp only; omega) | (intro h; exact h))) j)
                                have hU : UM σ hr hq j := ⟨by omega, by omega, by rw [← toldM_g (q := j) (hr := hr) (hq := hq) hi3_70]; omega⟩
                                have hlj := hln j (by omega) ⟨by omega, by omega⟩
                                have hbx : 0 ≤ (s3 68 (σ 37 j).toInt.toNat).toInt ∧ (s3 68 (σ 37 j).toInt.toNat).toInt ≤ 99 := hi1_70.1 _ (by omega)
                                have hby : 0 ≤ (s3 68 (σ 38 j).toInt.toNat).toInt ∧ (s3 68 (σ 38 j).toInt.toNat).toInt ≤ 99 := hi1_70.1 _ (by omega)
                                refine lv_aload_n hC.x hC.b dX10_goes_101 rfl (lv_at hl 0 rfl) ?_
                                refine rget hC hK hR (ct_model G _ _) rfl uin_X10 38 (by decide) TF_X10_117 rfl dX10_goes_102 ?_
                                refine lv_aload_n hC.x hC.b dX10_goes_105 rfl (lv_at hl 0 rfl) ?_
                                refine rget hC hK hR (ct_model G _ _) rfl uin_X10 1 (by decide) TF_X10_13 rfl dX10_goes_106 ?_
                                refine lv_iload hC.x hC.b dX10_goes_109 (lv_at hl 7 rfl) ?_
                                refine ald hC hK hR (ct_m_one G _ _) (nI_T j (by omega)) (by omega) (by omega) (Int.toNat_natCast _) dX10_goes_111 ?_
                                rw [show s3 37 j = (σ 37 j) from (show s3 37 j = σ 37 j from congrFun (hi3_70.1 37 (by omega) (by first | omega | (dsimp only; omega) | (intro h; exact h))) j)]
                                refine ald hC hK hR (ct_m_far G _ _) rfl (by omega) (by omega) rfl dX10_goes_112 ?_
                                refine lv_aload_n hC.x hC.b dX10_goes_113 rfl (lv_at hl 0 rfl) ?_
                                refine rget hC hK hR (ct_model G _ _) rfl uin_X10 38 (by decide) TF_X10_117 rfl dX10_goes_114 ?_
                                refine lv_aload_n hC.x hC.b dX10_goes_117 rfl (lv_at hl 0 rfl) ?_
                                refine rget hC hK hR (ct_model G _ _) rfl uin_X10 2 (by decide) TF_X10_16 rfl dX10_goes_118 ?_
                                refine lv_iload hC.x hC.b dX10_goes_121 (lv_at hl 7 rfl) ?_
                                refine ald hC hK hR (ct_m_two G _ _) (nI_T j (by omega)) (by omega) (by omega) (Int.toNat_natCast _) dX10_goes_123 ?_
                                rw [show s3 38 j = (σ 38 j) from (show s3 38 j = σ 38 j from congrFun (hi3_70.1 38 (by omega) (by first | omega | (dsimp only; omega) | (intro h; exact h))) j)]
                                refine ald hC hK hR (ct_m_far G _ _) rfl (by omega) (by omega) rfl dX10_goes_124 ?_
                                refine lv_iconst (v := 1) hC.x hC.b dX10_goes_125 (by decide) ?_
                                refine lv_iadd hC.x hC.b dX10_goes_126 ?_
                                have pr_353 : ((s3 68 (((σ 38 j).toInt).toNat)) + (1 : Int32)).toInt = ((s3 68 (((σ 38 j).toInt).toNat)).toInt + 1) := addI rfl rfl (by omega) (by omega)
                                refine bi_le (tgt := 156) (a := (s3 68 (((σ 37 j).toInt).toNat)).toInt) (b := ((s3 68 (((σ 38 j).toInt).toNat)).toInt + 1)) hC.x hC.b rfl pr_353 dX10_goes_127 (by decide) (fun c_354 => ?_) (fun c_354 => ?_)
                                · skip
                                  have hA1 : BFI (UM σ hr hq) (xM σ) (yM σ) b5.toInt.toNat (fM s3) ∧ BFL (UM σ hr hq) (xM σ) (yM σ) (n6 : Int) j (fM s3) ∧ (s3 68 (xM σ j)).toInt ≤ (s3 68 (yM σ j)).toInt + 1 := ⟨hi1_70, hi2_70, by assumption⟩
                                  refine lv_aload_n hC.x hC.b dX10_goes_156 rfl (lv_at hl 0 rfl) ?_
                                  refine rget hC hK hR (ct_model G _ _) rfl uin_X10 38 (by decide) TF_X10_117 rfl dX10_goes_157 ?_
                                  refine lv_aload_n hC.x hC.b dX10_goes_160 rfl (lv_at hl 0 rfl) ?_
                                  refine rget hC hK hR (ct_model G _ _) rfl uin_X10 2 (by decide) TF_X10_16 rfl dX10_goes_161 ?_
                                  refine lv_iload hC.x hC.b dX10_goes_164 (lv_at hl 7 rfl) ?_
                                  refine ald hC hK hR (ct_m_two G _ _) (nI_T j (by omega)) (by omega) (by omega) (Int.toNat_natCast _) dX10_goes_166 ?_
                                  rw [show s3 38 j = (σ 38 j) from (show s3 38 j = σ 38 j from congrFun (hi3_70.1 38 (by omega) (by first | omega | (dsimp only; omega) | (intro h; exact h))) j)]
                                  refine ald hC hK hR (ct_m_far G _ _) rfl (by omega) (by omega) rfl dX10_goes_167 ?_
                                  refine lv_aload_n hC.x hC.b dX10_goes_168 rfl (lv_at hl 0 rfl) ?_
                                  refine rget hC hK hR (ct_model G _ _) rfl uin_X10 38 (by decide) TF_X10_117 rfl dX10_goes_169 ?_
                                  refine lv_aload_n hC.x hC.b dX10_goes_172 rfl (lv_at hl 0 rfl) ?_
                                  refine rget hC hK hR (ct_model G _ _) rfl uin_X10 1 (by decide) TF_X10_13 rfl dX10_goes_173 ?_
                                  refine lv_iload hC.x hC.b dX10_goes_176 (lv_at hl 7 rfl) ?_
                                  refine ald hC hK hR (ct_m_one G _ _) (nI_T j (by omega)) (by omega) (by omega) (Int.toNat_natCast _) dX10_goes_178 ?_
                                  rw [show s3 37 j = (σ 37 j) from (show s3 37 j = σ 37 j from congrFun (hi3_70.1 37 (by omega) (by first | omega | (dsimp only; omega) | (intro h; exact h))) j)]
                                  refine ald hC hK hR (ct_m_far G _ _) rfl (by omega) (by omega) rfl dX10_goes_179 ?_
                                  refine lv_iconst (v := 1) hC.x hC.b dX10_goes_180 (by decide) ?_
                                  refine lv_iadd hC.x hC.b dX10_goes_181 ?_
                                  have pr_355 : ((s3 68 (((σ 37 j).toInt).toNat)) + (1 : Int32)).toInt = ((s3 68 (((σ 37 j).toInt).toNat)).toInt + 1) := addI rfl rfl (by omega) (by omega)
                                  refine bi_le (tgt := 211) (a := (s3 68 (((σ 38 j).toInt).toNat)).toInt) (b := ((s3 68 (((σ 37 j).toInt).toNat)).toInt + 1)) hC.x hC.b rfl pr_355 dX10_goes_182 (by decide) (fun c_356 => ?_) (fun c_356 => ?_)
                                  · skip
                                    have hA2 := bf_a0 hA1 (by show (s3 68 (σ 38 j).toInt.toNat).toInt ≤ (s3 68 (σ 37 j).toInt.toNat).toInt + 1; omega)
                                    refine lv_iinc (v := nI (j + 1)) (lv' := [(7, .int (nI (j + 1))), (0, .ref (G.2.1 35)), (1, .int xa), (2, .int ya), (3, .int hr), (4, .int a4), (5, .int b5), (6, .int (nI n6))]) hC.x hC.b dX10_goes_211 hl (k := 7) rfl (nI_succ _).symm (by decide) rfl (fun ls hl => ?_)
                                    refine lv_goto (tgt := 70) hC.x hC.b dX10_goes_214 (by decide) ?_
                                    exact ih_70 (j + 1) s3 (by omega) (by first | omega | assumption) (by exact hA2.1) (by exact hA2.2) hi3_70 _ _ _ hR hS (lv_sub hl [1, 2, 3, 4, 5, 6, 7, 0] rfl)
                                  · skip
                                    refine lv_aload_n hC.x hC.b dX10_goes_185 rfl (lv_at hl 0 rfl) ?_
                                    refine rget hC hK hR (ct_model G _ _) rfl uin_X10 38 (by decide) TF_X10_117 rfl dX10_goes_186 ?_
                                    refine lv_aload_n hC.x hC.b dX10_goes_189 rfl (lv_at hl 0 rfl) ?_
                                    refine rget hC hK hR (ct_model G _ _) rfl uin_X10 2 (by decide) TF_X10_16 rfl dX10_goes_190 ?_
                                    refine lv_iload hC.x hC.b dX10_goes_193 (lv_at hl 7 rfl) ?_
                                    refine ald hC hK hR (ct_m_two G _ _) (nI_T j (by omega)) (by omega) (by omega) (Int.toNat_natCast _) dX10_goes_195 ?_
                                    rw [show s3 38 j = (σ 38 j) from (show s3 38 j = σ 38 j from congrFun (hi3_70.1 38 (by omega) (by first | omega | (dsimp only; omega) | (intro h; exact h))) j)]
                                    refine lv_aload_n hC.x hC.b dX10_goes_196 rfl (lv_at hl 0 rfl) ?_
                                    refine rget hC hK hR (ct_model G _ _) rfl uin_X10 38 (by decide) TF_X10_117 rfl dX10_goes_197 ?_
                                    refine lv_aload_n hC.x hC.b dX10_goes_200 rfl (lv_at hl 0 rfl) ?_
                                    refine rget hC hK hR (ct_model G _ _) rfl uin_X10 1 (by decide) TF_X10_13 rfl dX10_goes_201 ?_
                                    refine lv_iload hC.x hC.b dX10_goes_204 (lv_at hl 7 rfl) ?_
                                    refine ald hC hK hR (ct_m_one G _ _) (nI_T j (by omega)) (by omega) (by omega) (Int.toNat_natCast _) dX10_goes_206 ?_
                                    rw [show s3 37 j = (σ 37 j) from (show s3 37 j = σ 37 j from congrFun (hi3_70.1 37 (by omega) (by first | omega | (dsimp only; omega) | (intro h; exact h))) j)]
                                    refine ald hC hK hR (ct_m_far G _ _) rfl (by omega) (by omega) rfl dX10_goes_207 ?_
                                    refine lv_iconst (v := 1) hC.x hC.b dX10_goes_208 (by decide) ?_
                                    refine lv_iadd hC.x hC.b dX10_goes_209 ?_
                                    have pr_357 : ((s3 68 (((σ 37 j).toInt).toNat)) + (1 : Int32)).toInt = ((s3 68 (((σ 37 j).toInt).toNat)).toInt + 1) := addI rfl rfl (by omega) (by omega)
                                    refine ast hC hK hG hR hS (fun _ => ct_m_far G _ _) rfl (by omega) (by omega) rfl dX10_goes_210 (fun s_358 es_359 H locs hR hS => ?_)
                                    have hA2 := bf_a2 hln (by omega) hU hA1 (by show (s3 68 (σ 37 j).toInt.toNat).toInt + 1 < (s3 68 (σ 38 j).toInt.toNat).toInt; omega) (by show _ = (s3 68 (σ 37 j).toInt.toNat).toInt + 1; omega) es_359
                                    refine lv_iinc (v := nI (j + 1)) (lv' := [(7, .int (nI (j + 1))), (0, .ref (G.2.1 35)), (1, .int xa), (2, .int ya), (3, .int hr), (4, .int a4), (5, .int b5), (6, .int (nI n6))]) hC.x hC.b dX10_goes_211 hl (k := 7) rfl (nI_succ _).symm (by decide) rfl (fun ls hl => ?_)
                                    refine lv_goto (tgt := 70) hC.x hC.b dX10_goes_214 (by decide) ?_
                                    exact ih_70 (j + 1) s_358 (by omega) (by first | omega | assumption) (by exact hA2.1) (by exact hA2.2) (by rw [es_359]; exact MRel.up (hi3_70) (by omega) (by first | omega | (dsimp only; omega))) _ _ _ hR hS (lv_sub hl [1, 2, 3, 4, 5, 6, 7, 0] rfl)
                                · skip
                                  refine lv_aload_n hC.x hC.b dX10_goes_130 rfl (lv_at hl 0 rfl) ?_
                                  refine rget hC hK hR (ct_model G _ _) rfl uin_X10 38 (by decide) TF_X10_117 rfl dX10_goes_131 ?_
                                  refine lv_aload_n hC.x hC.b dX10_goes_134 rfl (lv_at hl 0 rfl) ?_
                                  refine rget hC hK hR (ct_model G _ _) rfl uin_X10 1 (by decide) TF_X10_13 rfl dX10_goes_135 ?_
                                  refine lv_iload hC.x hC.b dX10_goes_138 (lv_at hl 7 rfl) ?_
                                  refine ald hC hK hR (ct_m_one G _ _) (nI_T j (by omega)) (by omega) (by omega) (Int.toNat_natCast _) dX10_goes_140 ?_
                                  rw [show s3 37 j = (σ 37 j) from (show s3 37 j = σ 37 j from congrFun (hi3_70.1 37 (by omega) (by first | omega | (dsimp only; omega) | (intro h; exact h))) j)]
                                  refine lv_aload_n hC.x hC.b dX10_goes_141 rfl (lv_at hl 0 rfl) ?_
                                  refine rget hC hK hR (ct_model G _ _) rfl uin_X10 38 (by decide) TF_X10_117 rfl dX10_goes_142 ?_
                                  refine lv_aload_n hC.x hC.b dX10_goes_145 rfl (lv_at hl 0 rfl) ?_
                                  refine rget hC hK hR (ct_model G _ _) rfl uin_X10 2 (by decide) TF_X10_16 rfl dX10_goes_146 ?_
                                  refine lv_iload hC.x hC.b dX10_goes_149 (lv_at hl 7 rfl) ?_
                                  refine ald hC hK hR (ct_m_two G _ _) (nI_T j (by omega)) (by omega) (by omega) (Int.toNat_natCast _) dX10_goes_151 ?_
                                  rw [show s3 38 j = (σ 38 j) from (show s3 38 j = σ 38 j from congrFun (hi3_70.1 38 (by omega) (by first | omega | (dsimp only; omega) | (intro h; exact h))) j)]
                                  refine ald hC hK hR (ct_m_far G _ _) rfl (by omega) (by omega) rfl dX10_goes_152 ?_
                                  refine lv_iconst (v := 1) hC.x hC.b dX10_goes_153 (by decide) ?_
                                  refine lv_iadd hC.x hC.b dX10_goes_154 ?_
                                  have pr_360 : ((s3 68 (((σ 38 j).toInt).toNat)) + (1 : Int32)).toInt = ((s3 68 (((σ 38 j).toInt).toNat)).toInt + 1) := addI rfl rfl (by omega) (by omega)
                                  refine ast hC hK hG hR hS (fun _ => ct_m_far G _ _) rfl (by omega) (by omega) rfl dX10_goes_155 (fun s_361 es_362 H locs hR hS => ?_)
                                  have hA1 : BFI (UM σ hr hq) (xM σ) (yM σ) b5.toInt.toNat (fM s_361) ∧ BFL (UM σ hr hq) (xM σ) (yM σ) (n6 : Int) j (fM s_361) ∧ (s_361 68 (xM σ j)).toInt ≤ (s_361 68 (yM σ j)).toInt + 1 := bf_a1 hln (by omega) hU hi1_70 hi2_70 (by assumption) (by assumption) es_362
                                  have rdx : (s_361 68 (σ 37 j).toInt.toNat).toInt = (s3 68 (σ 38 j).toInt.toNat).toInt + 1 := by rw [es_362, up2_s]; omega
                                  have hbx2 : 0 ≤ (s_361 68 (σ 37 j).toInt.toNat).toInt ∧ (s_361 68 (σ 37 j).toInt.toNat).toInt ≤ 99 := hA1.1.1 _ (by omega)
                                  refine lv_aload_n hC.x hC.b dX10_goes_156 rfl (lv_at hl 0 rfl) ?_
                                  refine rget hC hK hR (ct_model G _ _) rfl uin_X10 38 (by decide) TF_X10_117 rfl dX10_goes_157 ?_
                                  refine lv_aload_n hC.x hC.b dX10_goes_160 rfl (lv_at hl 0 rfl) ?_
                                  refine rget hC hK hR (ct_model G _ _) rfl uin_X10 2 (by decide) TF_X10_16 rfl dX10_goes_161 ?_
                                  refine lv_iload hC.x hC.b dX10_goes_164 (lv_at hl 7 rfl) ?_
                                  refine ald hC hK hR (ct_m_two G _ _) (nI_T j (by omega)) (by omega) (by omega) (Int.toNat_natCast _) dX10_goes_166 ?_
                                  rw [show s_361 38 j = (σ 38 j) from (Eq.trans (show s_361 38 j = s3 38 j from (by rw [es_362]; exact up2_o (by omega))) (show s3 38 j = σ 38 j from congrFun (hi3_70.1 38 (by omega) (by first | omega | (dsimp only; omega) | (intro h; exact h))) j))]
                                  refine ald hC hK hR (ct_m_far G _ _) rfl (by omega) (by omega) rfl dX10_goes_167 ?_
                                  refine lv_aload_n hC.x hC.b dX10_goes_168 rfl (lv_at hl 0 rfl) ?_
                                  refine rget hC hK hR (ct_model G _ _) rfl uin_X10 38 (by decide) TF_X10_117 rfl dX10_goes_169 ?_
                                  refine lv_aload_n hC.x hC.b dX10_goes_172 rfl (lv_at hl 0 rfl) ?_
                                  refine rget hC hK hR (ct_model G _ _) rfl uin_X10 1 (by decide) TF_X10_13 rfl dX10_goes_173 ?_
                                  refine lv_iload hC.x hC.b dX10_goes_176 (lv_at hl 7 rfl) ?_
                                  refine ald hC hK hR (ct_m_one G _ _) (nI_T j (by omega)) (by omega) (by omega) (Int.toNat_natCast _) dX10_goes_178 ?_
                                  rw [show s_361 37 j = (σ 37 j) from (Eq.trans (show s_361 37 j = s3 37 j from (by rw [es_362]; exact up2_o (by omega))) (show s3 37 j = σ 37 j from congrFun (hi3_70.1 37 (by omega) (by first | omega | (dsimp only; omega) | (intro h; exact h))) j))]
                                  refine ald hC hK hR (ct_m_far G _ _) rfl (by omega) (by omega) rfl dX10_goes_179 ?_
                                  rw [show s_361 68 (((σ 37 j).toInt).toNat) = ((s3 68 (((σ 38 j).toInt).toNat)) + (1 : Int32)) from (show s_361 68 (((σ 37 j).toInt).toNat) = ((s3 68 (((σ 38 j).toInt).toNat)) + (1 : Int32)) from (by rw [es_362]; exact up2_s))]
                                  refine lv_iconst (v := 1) hC.x hC.b dX10_goes_180 (by decide) ?_
                                  refine lv_iadd hC.x hC.b dX10_goes_181 ?_
                                  have pr_363 : (((s3 68 (((σ 38 j).toInt).toNat)) + (1 : Int32)) + (1 : Int32)).toInt = (((s3 68 (((σ 38 j).toInt).toNat)) + (1 : Int32)).toInt + 1) := addI rfl rfl (by omega) (by omega)
                                  refine bi_le (tgt := 211) (a := (s_361 68 (((σ 38 j).toInt).toNat)).toInt) (b := (((s3 68 (((σ 38 j).toInt).toNat)) + (1 : Int32)).toInt + 1)) hC.x hC.b rfl pr_363 dX10_goes_182 (by decide) (fun c_364 => ?_) (fun c_364 => ?_)
                                  · skip
                                    have hA2 := bf_a0 hA1 (by show (s_361 68 (σ 38 j).toInt.toNat).toInt ≤ (s_361 68 (σ 37 j).toInt.toNat).toInt + 1; omega)
                                    refine lv_iinc (v := nI (j + 1)) (lv' := [(7, .int (nI (j + 1))), (0, .ref (G.2.1 35)), (1, .int xa), (2, .int ya), (3, .int hr), (4, .int a4), (5, .int b5), (6, .int (nI n6))]) hC.x hC.b dX10_goes_211 hl (k := 7) rfl (nI_succ _).symm (by decide) rfl (fun ls hl => ?_)
                                    refine lv_goto (tgt := 70) hC.x hC.b dX10_goes_214 (by decide) ?_
                                    exact ih_70 (j + 1) s_361 (by omega) (by first | omega | assumption) (by exact hA2.1) (by exact hA2.2) (by rw [es_362]; exact MRel.up (hi3_70) (by omega) (by first | omega | (dsimp only; omega))) _ _ _ hR hS (lv_sub hl [1, 2, 3, 4, 5, 6, 7, 0] rfl)
                                  · skip
                                    refine lv_aload_n hC.x hC.b dX10_goes_185 rfl (lv_at hl 0 rfl) ?_
                                    refine rget hC hK hR (ct_model G _ _) rfl uin_X10 38 (by decide) TF_X10_117 rfl dX10_goes_186 ?_
                                    refine lv_aload_n hC.x hC.b dX10_goes_189 rfl (lv_at hl 0 rfl) ?_
                                    refine rget hC hK hR (ct_model G _ _) rfl uin_X10 2 (by decide) TF_X10_16 rfl dX10_goes_190 ?_
                                    refine lv_iload hC.x hC.b dX10_goes_193 (lv_at hl 7 rfl) ?_
                                    refine ald hC hK hR (ct_m_two G _ _) (nI_T j (by omega)) (by omega) (by omega) (Int.toNat_natCast _) dX10_goes_195 ?_
                                    rw [show s_361 38 j = (σ 38 j) from (Eq.trans (show s_361 38 j = s3 38 j from (by rw [es_362]; exact up2_o (by omega))) (show s3 38 j = σ 38 j from congrFun (hi3_70.1 38 (by omega) (by first | omega | (dsimp only; omega) | (intro h; exact h))) j))]
                                    refine lv_aload_n hC.x hC.b dX10_goes_196 rfl (lv_at hl 0 rfl) ?_
                                    refine rget hC hK hR (ct_model G _ _) rfl uin_X10 38 (by decide) TF_X10_117 rfl dX10_goes_197 ?_
                                    refine lv_aload_n hC.x hC.b dX10_goes_200 rfl (lv_at hl 0 rfl) ?_
                                    refine rget hC hK hR (ct_model G _ _) rfl uin_X10 1 (by decide) TF_X10_13 rfl dX10_goes_201 ?_
                                    refine lv_iload hC.x hC.b dX10_goes_204 (lv_at hl 7 rfl) ?_
                                    refine ald hC hK hR (ct_m_one G _ _) (nI_T j (by omega)) (by omega) (by omega) (Int.toNat_natCast _) dX10_goes_206 ?_
                                    rw [show s_361 37 j = (σ 37 j) from (Eq.trans (show s_361 37 j = s3 37 j from (by rw [es_362]; exact up2_o (by omega))) (show s3 37 j = σ 37 j from congrFun (hi3_70.1 37 (by omega) (by first | omega | (dsimp only; omega) | (intro h; exact h))) j))]
                                    refine ald hC hK hR (ct_m_far G _ _) rfl (by omega) (by omega) rfl dX10_goes_207 ?_
                                    rw [show s_361 68 (((σ 37 j).toInt).toNat) = ((s3 68 (((σ 38 j).toInt).toNat)) + (1 : Int32)) from (show s_361 68 (((σ 37 j).toInt).toNat) = ((s3 68 (((σ 38 j).toInt).toNat)) + (1 : Int32)) from (by rw [es_362]; exact up2_s))]
                                    refine lv_iconst (v := 1) hC.x hC.b dX10_goes_208 (by decide) ?_
                                    refine lv_iadd hC.x hC.b dX10_goes_209 ?_
                                    have pr_365 : (((s3 68 (((σ 38 j).toInt).toNat)) + (1 : Int32)) + (1 : Int32)).toInt = (((s3 68 (((σ 38 j).toInt).toNat)) + (1 : Int32)).toInt + 1) := addI rfl rfl (by omega) (by omega)
                                    refine ast hC hK hG hR hS (fun _ => ct_m_far G _ _) rfl (by omega) (by omega) rfl dX10_goes_210 (fun s_366 es_367 H locs hR hS => ?_)
                                    have hA2 := bf_a2 hln (by omega) hU hA1 (by show (s_361 68 (σ 37 j).toInt.toNat).toInt + 1 < (s_361 68 (σ 38 j).toInt.toNat).toInt; omega) (by show _ = (s_361 68 (σ 37 j).toInt.toNat).toInt + 1; omega) es_367
                                    refine lv_iinc (v := nI (j + 1)) (lv' := [(7, .int (nI (j + 1))), (0, .ref (G.2.1 35)), (1, .int xa), (2, .int ya), (3, .int hr), (4, .int a4), (5, .int b5), (6, .int (nI n6))]) hC.x hC.b dX10_goes_211 hl (k := 7) rfl (nI_succ _).symm (by decide) rfl (fun ls hl => ?_)
                                    refine lv_goto (tgt := 70) hC.x hC.b dX10_goes_214 (by decide) ?_
                                    exact ih_70 (j + 1) s_366 (by omega) (by first | omega | assumption) (by exact hA2.1) (by exact hA2.2) (by rw [es_367]; exact MRel.up ((by rw [es_362]; exact MRel.up (hi3_70) (by omega) (by first | omega | (dsimp only; omega)))) (by omega) (by first | omega | (dsimp only; omega))) _ _ _ hR hS (lv_sub hl [1, 2, 3, 4, 5, 6, 7, 0] rfl)
                              · skip
                                refine lv_goto (tgt := 211) hC.x hC.b dX10_goes_98 (by decide) ?_
                                have rd_368 : (s3 36 j).toInt = (σ 36 j).toInt := congrArg Int32.toInt (show s3 36 j = σ 36 j from congrFun (hi3_70.1 36 (by omega) (by first | omega | (dsimp only; omega) | (intro h; exact h))) j)
                                have hA2 := bf_sk hi1_70 hi2_70 (fun h => by have h1 := h.1; have h2 := h.2.1; have h3 := h.2.2; rw [← toldM_g (q := j) (hr := hr) (hq := hq) hi3_70] at h3; omega)
                                refine lv_iinc (v := nI (j + 1)) (lv' := [(7, .int (nI (j + 1))), (0, .ref (G.2.1 35)), (1, .int xa), (2, .int ya), (3, .int hr), (4, .int a4), (5, .int b5), (6, .int (nI n6))]) hC.x hC.b dX10_goes_211 hl (k := 7) rfl (nI_succ _).symm (by decide) rfl (fun ls hl => ?_)
                                refine lv_goto (tgt := 70) hC.x hC.b dX10_goes_214 (by decide) ?_
                                exact ih_70 (j + 1) s3 (by omega) (by first | omega | assumption) (by exact hA2.1) (by exact hA2.2) hi3_70 _ _ _ hR hS (lv_sub hl [1, 2, 3, 4, 5, 6, 7, 0] rfl)
                            · skip
                              refine bz_eq (tgt := 211) (a := 0) (b := 0) hC.x hC.b rfl rfl dX10_goes_83 (by decide) (fun _ => ?_) (fun c_369 => absurd c_369 (by decide))
                              have rd_370 : (s3 36 j).toInt = (σ 36 j).toInt := congrArg Int32.toInt (show s3 36 j = σ 36 j from congrFun (hi3_70.1 36 (by omega) (by first | omega | (dsimp only; omega) | (intro h; exact h))) j)
                              have hA2 := bf_sk hi1_70 hi2_70 (fun h => by have h1 := h.1; have h2 := h.2.1; have h3 := h.2.2; rw [← toldM_g (q := j) (hr := hr) (hq := hq) hi3_70] at h3; omega)
                              refine lv_iinc (v := nI (j + 1)) (lv' := [(7, .int (nI (j + 1))), (0, .ref (G.2.1 35)), (1, .int xa), (2, .int ya), (3, .int hr), (4, .int a4), (5, .int b5), (6, .int (nI n6))]) hC.x hC.b dX10_goes_211 hl (k := 7) rfl (nI_succ _).symm (by decide) rfl (fun ls hl => ?_)
                              refine lv_goto (tgt := 70) hC.x hC.b dX10_goes_214 (by decide) ?_
                              exact ih_70 (j + 1) s3 (by omega) (by first | omega | assumption) (by exact hA2.1) (by exact hA2.2) hi3_70 _ _ _ hR hS (lv_sub hl [1, 2, 3, 4, 5, 6, 7, 0] rfl)
                      exact L_70 _ 0 s2 (Nat.lt_succ_self _) (by first | omega | assumption) (by exact hi1_60) (by exact hi2_60) hi3_60 _ _ _ hR hS (lv_sub hl [1, 2, 3, 4, 5, 6, 7, 0] rfl)
                exact L_60 _ 0 s_251 (Nat.lt_succ_self _) (by first | omega | assumption) (by exact (bf_st (σ := σ) (hr := hr) (hq := hq) (b := b5.toInt.toNat) (s1 := s1) (by omega) (fun k hk => hi1_27 k (by omega)) es_252 hln).1) (by exact (bf_st (σ := σ) (hr := hr) (hq := hq) (b := b5.toInt.toNat) (s1 := s1) (by omega) (fun k hk => hi1_27 k (by omega)) es_252 hln).2) (by rw [es_252]; exact MRel.up (hi2_27) (by omega) (by first | omega | (dsimp only; omega))) _ _ _ hR hS (lv_sub hl [1, 2, 3, 4, 5, 6, 0] rfl)
              · skip
                refine lv_aload_n hC.x hC.b dX10_goes_34 rfl (lv_at hl 0 rfl) ?_
                refine rget hC hK hR (ct_model G _ _) rfl uin_X10 38 (by decide) TF_X10_117 rfl dX10_goes_35 ?_
                refine lv_iload hC.x hC.b dX10_goes_38 (lv_at hl 6 rfl) ?_
                refine lv_bipush (v := 99) hC.x hC.b dX10_goes_40 (by decide) ?_
                refine ast hC hK hG hR hS (fun _ => ct_m_far G _ _) (nI_T n (by omega)) (by omega) (by omega) (Int.toNat_natCast _) dX10_goes_42 (fun s_371 es_372 H locs hR hS => ?_)
                refine lv_iinc (v := nI (n + 1)) (lv' := [(6, .int (nI (n + 1))), (0, .ref (G.2.1 35)), (1, .int xa), (2, .int ya), (3, .int hr), (4, .int a4), (5, .int b5)]) hC.x hC.b dX10_goes_43 hl (k := 6) rfl (nI_succ _).symm (by decide) rfl (fun ls hl => ?_)
                refine lv_goto (tgt := 27) hC.x hC.b dX10_goes_46 (by decide) ?_
                exact ih_27 (n + 1) s_371 (by omega) (by first | omega | assumption) (by subst es_372; intro k hk; by_cases e9 : k = n; (subst e9; rw [up2_s]; decide); (rw [up2_n e9]; exact hi1_27 k (by omega))) (by rw [es_372]; exact MRel.up (hi2_27) (by omega) (by first | omega | (dsimp only; omega))) _ _ _ hR hS (lv_sub hl [1, 2, 3, 4, 5, 6, 0] rfl)
          exact L_27 _ 0 σ (Nat.lt_succ_self _) (by first | omega | assumption) (by intro k hk; omega) MRel.rf _ _ _ hR hS (lv_sub hl [1, 2, 3, 4, 5, 6, 0] rfl)
      exact L_24 _ xa xa (Nat.lt_succ_self _) (by first | omega | assumption) (by first | omega | assumption) _ _ _ hR hS (lv_sub hl [2, 3, 4, 5, 1, 0] rfl)
    · skip
      refine lv_iload_n hC.x hC.b dX10_goes_17 rfl (lv_at hl 3 rfl) ?_
      refine lv_goto (tgt := 22) hC.x hC.b dX10_goes_18 (by decide) ?_
      refine lv_istore (lv' := [(5, .int ya), (4, .int xa), (0, .ref (G.2.1 35)), (1, .int xa), (2, .int ya), (3, .int hr)]) hC.x hC.b dX10_goes_22 hl (by decide) rfl (fun ls hl => ?_)
      have L_24 : ∀ (F : Nat) (a4 : Int32) (b5 : Int32), 0 < F → (0 ≤ a4.toInt ∧ a4.toInt < 24) → (0 ≤ b5.toInt ∧ b5.toInt < 24) → ∀ (H : Heap) (locs : List Loc) (ls : Array Slot), RepH G σ τ H → va_S A s.heap H locs → lv_has ls 9 [(0, .ref (G.2.1 35)), (1, .int xa), (2, .int ya), (3, .int hr), (4, .int a4), (5, .int b5)] → W p l e (rmD 2) s m args below meth c H locs 0 0 (MQ below (va_Qi (po_X10_goes σ τ xa xq ya yq hr hq) (BU G) A) args s 0 0 A) (F0 m 24 ls []) := by
        intro F
        induction F with
        | zero => intro a4 b5 hm; exact absurd hm (Nat.not_lt_zero _)
        | succ F ih_24 =>
          intro a4 b5 hm_24 hi0_24 hi1_24 H locs ls hR hS hl
          refine lv_iconst (v := 0) hC.x hC.b dX10_goes_24 (by decide) ?_
          refine lv_istore (lv' := [(6, .int (0 : Int32)), (0, .ref (G.2.1 35)), (1, .int xa), (2, .int ya), (3, .int hr), (4, .int a4), (5, .int b5)]) hC.x hC.b dX10_goes_25 hl (by decide) rfl (fun ls hl => ?_)
          have L_27 : ∀ (F : Nat) (n : Nat) (s1 : SI), (24 - n) < F → (n ≤ 24) → (∀ k, k < n → (s1 68 k).toInt = 99) → (MRel (fun k => k = 68 ∨ k = 69) (fun j => j = 41 ∨ j = 43) σ s1) → ∀ (H : Heap) (locs : List Loc) (ls : Array Slot), RepH G s1 τ H → va_S A s.heap H locs → lv_has ls 9 [(0, .ref (G.2.1 35)), (1, .int xa), (2, .int ya), (3, .int hr), (4, .int a4), (5, .int b5), (6, .int (nI n))] → W p l e (rmD 2) s m args below meth c H locs 0 0 (MQ below (va_Qi (po_X10_goes σ τ xa xq ya yq hr hq) (BU G) A) args s 0 0 A) (F0 m 27 ls []) := by
            intro F
            induction F with
            | zero => intro n s1 hm; exact absurd hm (Nat.not_lt_zero _)
            | succ F ih_27 =>
              intro n s1 hm_27 hi0_27 hi1_27 hi2_27 H locs ls hR hS hl
              have hnI := nI_T n (by omega)
              refine lv_iload hC.x hC.b dX10_goes_27 (lv_at hl 6 rfl) ?_
              refine lv_bipush (v := 24) hC.x hC.b dX10_goes_29 (by decide) ?_
              refine bi_ge (tgt := 49) (a := (n : Int)) (b := 24) hC.x hC.b (nI_T n (by omega)) rfl dX10_goes_31 (by decide) (fun c_373 => ?_) (fun c_373 => ?_)
              · skip
                refine lv_aload_n hC.x hC.b dX10_goes_49 rfl (lv_at hl 0 rfl) ?_
                refine rget hC hK hR (ct_model G _ _) rfl uin_X10 38 (by decide) TF_X10_117 rfl dX10_goes_50 ?_
                refine lv_iload hC.x hC.b dX10_goes_53 (lv_at hl 5 rfl) ?_
                refine lv_iconst (v := 0) hC.x hC.b dX10_goes_55 (by decide) ?_
                refine ast hC hK hG hR hS (fun _ => ct_m_far G _ _) rfl (by omega) (by omega) rfl dX10_goes_56 (fun s_374 es_375 H locs hR hS => ?_)
                refine lv_iconst (v := 0) hC.x hC.b dX10_goes_57 (by decide) ?_
                refine lv_istore (lv' := [(6, .int (0 : Int32)), (0, .ref (G.2.1 35)), (1, .int xa), (2, .int ya), (3, .int hr), (4, .int a4), (5, .int b5)]) hC.x hC.b dX10_goes_58 hl (by decide) rfl (fun ls hl => ?_)
                have L_60 : ∀ (F : Nat) (n6 : Nat) (s2 : SI), (24 - n6) < F → (n6 ≤ 24) → (BFI (UM σ hr hq) (xM σ) (yM σ) b5.toInt.toNat (fM s2)) → (BFL (UM σ hr hq) (xM σ) (yM σ) (n6 : Int) 0 (fM s2)) → (MRel (fun k => k = 68 ∨ k = 69) (fun j => j = 41 ∨ j = 43) σ s2) → ∀ (H : Heap) (locs : List Loc) (ls : Array Slot), RepH G s2 τ H → va_S A s.heap H locs → lv_has ls 9 [(0, .ref (G.2.1 35)), (1, .int xa), (2, .int ya), (3, .int hr), (4, .int a4), (5, .int b5), (6, .int (nI n6))] → W p l e (rmD 2) s m args below meth c H locs 0 0 (MQ below (va_Qi (po_X10_goes σ τ xa xq ya yq hr hq) (BU G) A) args s 0 0 A) (F0 m 60 ls []) := by
                  intro F
                  induction F with
                  | zero => intro n6 s2 hm; exact absurd hm (Nat.not_lt_zero _)
                  | succ F ih_60 =>
                    intro n6 s2 hm_60 hi0_60 hi1_60 hi2_60 hi3_60 H locs ls hR hS hl
                    have hnI6 := nI_T n6 (by omega)
                    refine lv_iload hC.x hC.b dX10_goes_60 (lv_at hl 6 rfl) ?_
                    refine lv_bipush (v := 24) hC.x hC.b dX10_goes_62 (by decide) ?_
                    refine bi_ge (tgt := 223) (a := (n6 : Int)) (b := 24) hC.x hC.b (nI_T n6 (by omega)) rfl dX10_goes_64 (by decide) (fun c_376 => ?_) (fun c_376 => ?_)
                    · skip
                      refine lv_aload_n hC.x hC.b dX10_goes_223 rfl (lv_at hl 0 rfl) ?_
                      refine lv_iconst (v := 0) hC.x hC.b dX10_goes_224 (by decide) ?_
                      refine rputi hC hK hG hR hS (ct_model G _ _) rfl uin_X10 tyX10 tyX10_ok nmX10 41 (by decide) TF_X10_155 rfl (Or.inl rfl) (Nat.le_of_ble_eq_true rfl) rfl (ct_model G _ _) dX10_goes_225 (fun s_378 es_377 H locs hR hS => ?_)
                      refine lv_aload_n hC.x hC.b dX10_goes_228 rfl (lv_at hl 0 rfl) ?_
                      refine lv_iconst (v := 0) hC.x hC.b dX10_goes_229 (by decide) ?_
                      refine rputi hC hK hG hR hS (ct_model G _ _) rfl uin_X10 tyX10 tyX10_ok nmX10 43 (by decide) TF_X10_158 rfl (Or.inl rfl) (Nat.le_of_ble_eq_true rfl) rfl (ct_model G _ _) dX10_goes_230 (fun s_380 es_379 H locs hR hS => ?_)
                      refine lv_aload_n hC.x hC.b dX10_goes_233 rfl (lv_at hl 0 rfl) ?_
                      refine rget hC hK hR (ct_model G _ _) rfl uin_X10 38 (by decide) TF_X10_117 rfl dX10_goes_234 ?_
                      refine lv_iload hC.x hC.b dX10_goes_237 (lv_at hl 4 rfl) ?_
                      refine ald hC hK hR (ct_m_far G _ _) rfl (by omega) (by omega) rfl dX10_goes_239 ?_
                      rw [show s_380 68 a4.toInt.toNat = (s2 68 a4.toInt.toNat) from (Eq.trans (show s_380 68 a4.toInt.toNat = s_378 68 a4.toInt.toNat from (by rw [es_379]; exact up2_o (by omega))) (show s_378 68 a4.toInt.toNat = s2 68 a4.toInt.toNat from (by rw [es_377]; exact up2_o (by omega))))]
                      refine lv_bipush (v := 99) hC.x hC.b dX10_goes_240 (by decide) ?_
                      refine bi_lt (tgt := 247) (a := (s2 68 a4.toInt.toNat).toInt) (b := 99) hC.x hC.b rfl rfl dX10_goes_242 (by decide) (fun c_381 => ?_) (fun c_381 => ?_)
                      · skip
                        have rd_382 : (s_380 35 41).toInt = 0 := (congrArg Int32.toInt (Eq.trans (show s_380 35 41 = s_378 35 41 from (by rw [es_379]; exact up2_n (by omega))) (show s_378 35 41 = (0 : Int32) from (by rw [es_377]; exact up2_s)))).trans (by decide)
                        have rd_383 : (s_380 68 a4.toInt.toNat).toInt = (s2 68 a4.toInt.toNat).toInt := congrArg Int32.toInt (Eq.trans (show s_380 68 a4.toInt.toNat = s_378 68 a4.toInt.toNat from (by rw [es_379]; exact up2_o (by omega))) (show s_378 68 a4.toInt.toNat = s2 68 a4.toInt.toNat from (by rw [es_377]; exact up2_o (by omega))))
                        have e24 : (n6 : Int) = 24 := by omega
                        have hL24 : BFL (UM σ hr hq) (xM σ) (yM σ) 24 0 (fM s2) := e24 ▸ hi2_60
                        have h23 : (s2 68 a4.toInt.toNat).toInt ≤ 23 := bf_23 hln.xy hi1_60 hL24 (by omega) (by show (s2 68 a4.toInt.toNat).toInt < 99; omega)
                        refine lv_iload hC.x hC.b dX10_goes_247 (lv_at hl 4 rfl) ?_
                        refine lv_istore (lv' := [(6, .int a4), (0, .ref (G.2.1 35)), (1, .int xa), (2, .int ya), (3, .int hr), (4, .int a4), (5, .int b5)]) hC.x hC.b dX10_goes_249 hl (by decide) rfl (fun ls hl => ?_)
                        have L_251 : ∀ (F : Nat) (h6 : Int32) (s4 : SI), ((s4 68 h6.toInt.toNat).toInt.toNat) < F → (0 ≤ h6.toInt ∧ h6.toInt < 24) → (BFI (UM σ hr hq) (xM σ) (yM σ) b5.toInt.toNat (fM s4)) → (BFL (UM σ hr hq) (xM σ) (yM σ) 24 0 (fM s4)) → (0 ≤ (s4 35 41).toInt) → ((s4 35 41).toInt + (s4 68 h6.toInt.toNat).toInt ≤ 23) → (MRel (fun k => k = 68 ∨ k = 69) (fun j => j = 41 ∨ j = 43) σ s4) → ∀ (H : Heap) (locs : List Loc) (ls : Array Slot), RepH G s4 τ H → va_S A s.heap H locs → lv_has ls 9 [(0, .ref (G.2.1 35)), (1, .int xa), (2, .int ya), (3, .int hr), (5, .int b5), (6, .int h6)] → W p l e (rmD 2) s m args below meth c H locs 0 0 (MQ below (va_Qi (po_X10_goes σ τ xa xq ya yq hr hq) (BU G) A) args s 0 0 A) (F0 m 251 ls []) := by
                          intro F
                          induction F with
                          | zero => intro h6 s4 hm; exact absurd hm (Nat.not_lt_zero _)
                          | succ F ih_251 =>
                            intro h6 s4 hm_251 hi0_251 hi1_251 hi2_251 hi3_251 hi4_251 hi5_251 H locs ls hR hS hl
                            refine lv_iload hC.x hC.b dX10_goes_251 (lv_at hl 5 rfl) ?_
                            refine lv_iload hC.x hC.b dX10_goes_253 (lv_at hl 4 rfl) ?_
                            refine bi_eq (tgt := 398) (a := h6.toInt) (b := b5.toInt) hC.x hC.b rfl rfl dX10_goes_255 (by decide) (fun c_384 => ?_) (fun c_384 => ?_)
                            · skip
                              have hb6 : 0 ≤ (s4 68 h6.toInt.toNat).toInt ∧ (s4 68 h6.toInt.toNat).toInt ≤ 99 := hi1_251.1 _ (by omega)
                              refine lv_iload_n hC.x hC.b dX10_goes_398 rfl (lv_at hl 1 rfl) ?_
                              refine lv_iload_n hC.x hC.b dX10_goes_399 rfl (lv_at hl 2 rfl) ?_
                              refine bi_gt (tgt := 405) (a := xa.toInt) (b := ya.toInt) hC.x hC.b rfl rfl dX10_goes_400 (by decide) (fun c_385 => ?_) (fun c_385 => ?_)
                              · skip
                                refine lv_aload_n hC.x hC.b dX10_goes_405 rfl (lv_at hl 0 rfl) ?_
                                refine lv_aload_n hC.x hC.b dX10_goes_406 rfl (lv_at hl 0 rfl) ?_
                                refine rget hC hK hR (ct_model G _ _) rfl uin_X10 43 (by decide) TF_X10_158 rfl dX10_goes_407 ?_
                                refine lv_ineg hC.x hC.b dX10_goes_410 ?_
                                refine rputi hC hK hG hR hS (ct_model G _ _) rfl uin_X10 tyX10 tyX10_ok nmX10 43 (by decide) TF_X10_158 rfl (Or.inl rfl) (Nat.le_of_ble_eq_true rfl) rfl (ct_model G _ _) dX10_goes_411 (fun s_387 es_386 H locs hR hS => ?_)
                                have rd_388 : (s_387 35 41).toInt = (s4 35 41).toInt := congrArg Int32.toInt (show s_387 35 41 = s4 35 41 from (by rw [es_386]; exact up2_n (by omega)))
                                refine lv_iconst (v := 0) hC.x hC.b dX10_goes_414 (by decide) ?_
                                refine lv_istore (lv' := [(7, .int (0 : Int32)), (0, .ref (G.2.1 35)), (1, .int xa), (2, .int ya), (3, .int hr), (5, .int b5), (6, .int h6)]) hC.x hC.b dX10_goes_415 hl (by decide) rfl (fun ls hl => ?_)
                                have L_417 : ∀ (F : Nat) (n7 : Nat) (s5 : SI), (24 - n7) < F → (n7 ≤ 24) → (0 ≤ (s5 35 41).toInt ∧ (s5 35 41).toInt ≤ 23) → (MRel (fun k => k = 68 ∨ k = 69) (fun j => j = 41 ∨ j = 43) σ s5) → ∀ (H : Heap) (locs : List Loc) (ls : Array Slot), RepH G s5 τ H → va_S A s.heap H locs → lv_has ls 9 [(0, .ref (G.2.1 35)), (7, .int (nI n7))] → W p l e (rmD 2) s m args below meth c H locs 0 0 (MQ below (va_Qi (po_X10_goes σ τ xa xq ya yq hr hq) (BU G) A) args s 0 0 A) (F0 m 417 ls []) := by
                                  intro F
                                  induction F with
                                  | zero => intro n7 s5 hm; exact absurd hm (Nat.not_lt_zero _)
                                  | succ F ih_417 =>
                                    intro n7 s5 hm_417 hi0_417 hi1_417 hi2_417 H locs ls hR hS hl
                                    have hnI := nI_T n7 (by omega)
                                    refine lv_iconst (v := 2) hC.x hC.b dX10_goes_417 (by decide) ?_
                                    refine lv_iload hC.x hC.b dX10_goes_418 (lv_at hl 1 rfl) ?_
                                    refine lv_imul hC.x hC.b dX10_goes_420 ?_
                                    have pr_389 : ((2 : Int32) * (nI n7)).toInt = (2 * (n7 : Int)) := mulI rfl (nI_T n7 (by omega)) (by omega) (by omega)
                                    refine lv_aload_n hC.x hC.b dX10_goes_421 rfl (lv_at hl 0 rfl) ?_
                                    refine rget hC hK hR (ct_model G _ _) rfl uin_X10 41 (by decide) TF_X10_155 rfl dX10_goes_422 ?_
                                    refine lv_iconst (v := 1) hC.x hC.b dX10_goes_425 (by decide) ?_
                                    refine lv_isub hC.x hC.b dX10_goes_426 ?_
                                    have pr_390 : ((s5 35 41) - (1 : Int32)).toInt = ((s5 35 41).toInt - 1) := subI rfl rfl (by omega) (by omega)
                                    refine bi_ge (tgt := 482) (a := (2 * (n7 : Int))) (b := ((s5 35 41).toInt - 1)) hC.x hC.b pr_389 pr_390 dX10_goes_427 (by decide) (fun c_391 => ?_) (fun c_391 => ?_)
                                    · skip
                                      refine lv_iconst (v := 1) hC.x hC.b dX10_goes_482 (by decide) ?_
                                      exact retz hC hK hR hS (Or.inr rfl) (by first | exact Or.inl (⟨by first | rfl | omega, by exact hi2_417, by first | omega | (dsimp only; omega)⟩) | exact False.elim (by omega)) dX10_goes_483
                                    · skip
                                      refine lv_aload_n hC.x hC.b dX10_goes_430 rfl (lv_at hl 0 rfl) ?_
                                      refine rget hC hK hR (ct_model G _ _) rfl uin_X10 39 (by decide) TF_X10_120 rfl dX10_goes_431 ?_
                                      refine lv_iload hC.x hC.b dX10_goes_434 (lv_at hl 1 rfl) ?_
                                      refine ald hC hK hR (ct_m_going G _ _) (nI_T n7 (by omega)) (by omega) (by omega) (Int.toNat_natCast _) dX10_goes_436 ?_
                                      refine lv_istore (lv' := [(8, .int (s5 69 n7)), (0, .ref (G.2.1 35)), (7, .int (nI n7))]) hC.x hC.b dX10_goes_437 hl (by decide) rfl (fun ls hl => ?_)
                                      refine lv_aload_n hC.x hC.b dX10_goes_439 rfl (lv_at hl 1 rfl) ?_
                                      refine rget hC hK hR (ct_model G _ _) rfl uin_X10 39 (by decide) TF_X10_120 rfl dX10_goes_440 ?_
                                      refine lv_iload hC.x hC.b dX10_goes_443 (lv_at hl 2 rfl) ?_
                                      refine lv_aload_n hC.x hC.b dX10_goes_445 rfl (lv_at hl 1 rfl) ?_
                                      refine rget hC hK hR (ct_model G _ _) rfl uin_X10 39 (by decide) TF_X10_120 rfl dX10_goes_446 ?_
                                      refine lv_aload_n hC.x hC.b dX10_goes_449 rfl (lv_at hl 1 rfl) ?_
                                      refine rget hC hK hR (ct_model G _ _) rfl uin_X10 41 (by decide) TF_X10_155 rfl dX10_goes_450 ?_
                                      refine lv_iconst (v := 1) hC.x hC.b dX10_goes_453 (by decide) ?_
                                      refine lv_isub hC.x hC.b dX10_goes_454 ?_
                                      have pr_392 : ((s5 35 41) - (1 : Int32)).toInt = ((s5 35 41).toInt - 1) := subI rfl rfl (by omega) (by omega)
                                      refine lv_iload hC.x hC.b dX10_goes_455 (lv_at hl 2 rfl) ?_
                                      refine lv_isub hC.x hC.b dX10_goes_457 ?_
                                      have pr_393 : (((s5 35 41) - (1 : Int32)) - (nI n7)).toInt = (((s5 35 41).toInt - 1) - (n7 : Int)) := subI pr_392 (nI_T n7 (by omega)) (by omega) (by omega)
                                      refine ald hC hK hR (ct_m_going G _ _) pr_393 (by omega) (by omega) rfl dX10_goes_458 ?_
                                      refine ast hC hK hG hR hS (fun _ => ct_m_going G _ _) (nI_T n7 (by omega)) (by omega) (by omega) (Int.toNat_natCast _) dX10_goes_459 (fun s_394 es_395 H locs hR hS => ?_)
                                      refine lv_aload_n hC.x hC.b dX10_goes_460 rfl (lv_at hl 1 rfl) ?_
                                      refine rget hC hK hR (ct_model G _ _) rfl uin_X10 39 (by decide) TF_X10_120 rfl dX10_goes_461 ?_
                                      refine lv_aload_n hC.x hC.b dX10_goes_464 rfl (lv_at hl 1 rfl) ?_
                                      refine rget hC hK hR (ct_model G _ _) rfl uin_X10 41 (by decide) TF_X10_155 rfl dX10_goes_465 ?_
                                      rw [show s_394 35 41 = (s5 35 41) from (show s_394 35 41 = s5 35 41 from (by rw [es_395]; exact up2_o (by omega)))]
                                      refine lv_iconst (v := 1) hC.x hC.b dX10_goes_468 (by decide) ?_
                                      refine lv_isub hC.x hC.b dX10_goes_469 ?_
                                      have pr_396 : ((s5 35 41) - (1 : Int32)).toInt = ((s5 35 41).toInt - 1) := subI rfl rfl (by omega) (by omega)
                                      refine lv_iload hC.x hC.b dX10_goes_470 (lv_at hl 2 rfl) ?_
                                      refine lv_isub hC.x hC.b dX10_goes_472 ?_
                                      have pr_397 : (((s5 35 41) - (1 : Int32)) - (nI n7)).toInt = (((s5 35 41).toInt - 1) - (n7 : Int)) := subI pr_396 (nI_T n7 (by omega)) (by omega) (by omega)
                                      refine lv_iload hC.x hC.b dX10_goes_473 (lv_at hl 0 rfl) ?_
                                      refine ast hC hK hG hR hS (fun _ => ct_m_going G _ _) pr_397 (by omega) (by omega) rfl dX10_goes_475 (fun s_398 es_399 H locs hR hS => ?_)
                                      have rd_400 : (s_398 35 41).toInt = (s5 35 41).toInt := congrArg Int32.toInt (Eq.trans (show s_398 35 41 = s_394 35 41 from (by rw [es_399]; exact up2_o (by omega))) (show s_394 35 41 = s5 35 41 from (by rw [es_395]; exact up2_o (by omega))))
                                      refine lv_iinc (v := nI (n7 + 1)) (lv' := [(7, .int (nI (n7 + 1))), (8, .int (s5 69 n7)), (0, .ref (G.2.1 35))]) hC.x hC.b dX10_goes_476 hl (k := 2) rfl (nI_succ _).symm (by decide) rfl (fun ls hl => ?_)
                                      refine lv_goto (tgt := 417) hC.x hC.b dX10_goes_479 (by decide) ?_
                                      exact ih_417 (n7 + 1) s_398 (by omega) (by first | omega | assumption) (by first | omega | assumption) (by rw [es_399]; exact MRel.up ((by rw [es_395]; exact MRel.up (hi2_417) (by omega) (by first | omega | (dsimp only; omega)))) (by omega) (by first | omega | (dsimp only; omega))) _ _ _ hR hS (lv_sub hl [2, 0] rfl)
                                exact L_417 _ 0 s_387 (Nat.lt_succ_self _) (by first | omega | assumption) (by first | omega | assumption) (by rw [es_386]; exact MRel.upm (hi5_251) (by first | omega | (dsimp only; omega))) _ _ _ hR hS (lv_sub hl [1, 0] rfl)
                              · skip
                                refine lv_iconst (v := 1) hC.x hC.b dX10_goes_403 (by decide) ?_
                                exact retz hC hK hR hS (Or.inr rfl) (by first | exact Or.inl (⟨by first | rfl | omega, by exact hi5_251, by first | omega | (dsimp only; omega)⟩) | exact False.elim (by omega)) dX10_goes_404
                            · skip
                              refine lv_iconst (v := 0) hC.x hC.b dX10_goes_258 (by decide) ?_
                              refine lv_istore (lv' := [(7, .int (0 : Int32)), (0, .ref (G.2.1 35)), (1, .int xa), (2, .int ya), (3, .int hr), (5, .int b5), (6, .int h6)]) hC.x hC.b dX10_goes_259 hl (by decide) rfl (fun ls hl => ?_)
                              have L_261 : ∀ (F : Nat) (j : Nat), (24 - j) < F → (∃ w0, j ≤ w0 ∧ w0 < 24 ∧ GdM s4 hr hq h6 w0) → ∀ (H : Heap) (locs : List Loc) (ls : Array Slot), RepH G s4 τ H → va_S A s.heap H locs → lv_has ls 9 [(0, .ref (G.2.1 35)), (1, .int xa), (2, .int ya), (3, .int hr), (5, .int b5), (6, .int h6), (7, .int (nI j))] → W p l e (rmD 2) s m args below meth c H locs 0 0 (MQ below (va_Qi (po_X10_goes σ τ xa xq ya yq hr hq) (BU G) A) args s 0 0 A) (F0 m 261 ls []) := by
                                intro F
                                induction F with
                                | zero => intro j hm; exact absurd hm (Nat.not_lt_zero _)
                                | succ F ih_261 =>
                                  intro j hm_261 hi0_261 H locs ls hR hS hl
                                  obtain ⟨lw, lw1, lw2, lw3⟩ := hi0_261
                                  have hnI := nI_T j (by omega)
                                  refine lv_aload_n hC.x hC.b dX10_goes_261 rfl (lv_at hl 0 rfl) ?_
                                  refine lv_iload hC.x hC.b dX10_goes_262 (lv_at hl 6 rfl) ?_
                                  have av_401 : (nI j).toInt = (j : Int) := (nI_T j (by omega))
                                  refine goip (runV (As := [.int (nI j)]) (rest := []) hC hK hR hl.1 (c_X10_isLink l hG s4 τ (nI j) j (by first | rfl | (rw [show (nI j).toInt = (j : Int) from (nI_T j (by omega))]; done) | (rw [show (nI j).toInt = (j : Int) from (nI_T j (by omega))]; exact (Int.toNat_natCast _))) ) (call_b hC.ts TC_X10_isLink TN_X10 TM_X10_148 hd_X10_isLink ⟨Nat.le_of_ble_eq_true rfl, Nat.le_of_ble_eq_true rfl⟩) TI_X10_isLink TS_X10_isLink (ct_model G _ _) rfl rfl rfl (Nat.le_of_ble_eq_true rfl) dX10_goes_264 ⟨Nat.le_of_ble_eq_true rfl, Nat.le_of_ble_eq_true rfl⟩) hS (fun v_402 H locs w_403 hR hS => ?_)
                                  rcases w_403 with ⟨rfl, f_404, f_405⟩ | ⟨rfl, f_406⟩
                                  · skip
                                    refine bz_eq (tgt := 319) (a := 1) (b := 0) hC.x hC.b rfl rfl dX10_goes_267 (by decide) (fun c_407 => absurd c_407 (by decide)) (fun _ => ?_)
                                    refine lv_aload_n hC.x hC.b dX10_goes_270 rfl (lv_at hl 0 rfl) ?_
                                    refine lv_iload hC.x hC.b dX10_goes_271 (lv_at hl 6 rfl) ?_
                                    refine lv_iload_n hC.x hC.b dX10_goes_273 rfl (lv_at hl 3 rfl) ?_
                                    have av_408 : (nI j).toInt = (j : Int) := (nI_T j (by omega))
                                    have rd_409 : (s4 35 29).toInt = (σ 35 29).toInt := congrArg Int32.toInt (show s4 35 29 = σ 35 29 from hi5_251.2 29 (by first | omega | (dsimp only; omega)))
                                    refine goip (runV (As := [.int (nI j), .int hr]) (rest := []) hC hK hR hl.1 (c_X10_told l hG s4 τ (nI j) j (by first | rfl | (rw [show (nI j).toInt = (j : Int) from (nI_T j (by omega))]; done) | (rw [show (nI j).toInt = (j : Int) from (nI_T j (by omega))]; exact (Int.toNat_natCast _))) hr hq (by first | rfl | (rw [show hr.toInt = hr.toInt from rfl]; done) | (rw [show hr.toInt = hr.toInt from rfl]; exact hp_hq)) (by first | assumption | omega) (by omega)) (call_b hC.ts TC_X10_told TN_X10 TM_X10_152 hd_X10_told ⟨Nat.le_of_ble_eq_true rfl, Nat.le_of_ble_eq_true rfl⟩) TI_X10_told TS_X10_told (ct_model G _ _) rfl rfl rfl (Nat.le_of_ble_eq_true rfl) dX10_goes_274 ⟨Nat.le_of_ble_eq_true rfl, Nat.le_of_ble_eq_true rfl⟩) hS (fun v_410 H locs w_411 hR hS => ?_)
                                    subst w_411
                                    refine lv_ldc hC.x hC.b hC.ow (hC.ts _ TK_X10_151) dX10_goes_277 ?_
                                    refine bi_eq (tgt := 319) (a := (toldM s4 j hr hq).toInt) (b := 1000000) hC.x hC.b rfl rfl dX10_goes_279 (by decide) (fun c_412 => ?_) (fun c_412 => ?_)
                                    · skip
                                      refine lv_iinc (v := nI (j + 1)) (lv' := [(7, .int (nI (j + 1))), (0, .ref (G.2.1 35)), (1, .int xa), (2, .int ya), (3, .int hr), (5, .int b5), (6, .int h6)]) hC.x hC.b dX10_goes_319 hl (k := 6) rfl (nI_succ _).symm (by decide) rfl (fun ls hl => ?_)
                                      refine lv_goto (tgt := 261) hC.x hC.b dX10_goes_322 (by decide) ?_
                                      exact ih_261 (j + 1) (by omega) (by refine ⟨lw, ?_, lw2, lw3⟩; rcases Nat.eq_or_lt_of_le lw1 with e9 | e9; (exfalso; subst e9; obtain ⟨g1, g2, g3, g4, g5⟩ := lw3; omega); omega) _ _ _ hR hS (lv_sub hl [1, 2, 3, 4, 5, 6, 0] rfl)
                                    · skip
                                      refine lv_aload_n hC.x hC.b dX10_goes_282 rfl (lv_at hl 0 rfl) ?_
                                      refine lv_iload hC.x hC.b dX10_goes_283 (lv_at hl 6 rfl) ?_
                                      refine lv_iload hC.x hC.b dX10_goes_285 (lv_at hl 5 rfl) ?_
                                      have av_413 : (nI j).toInt = (j : Int) := (nI_T j (by omega))
                                      refine goip (runV (As := [.int (nI j), .int h6]) (rest := []) hC hK hR hl.1 (c_X10_other l hG s4 τ (nI j) j (by first | rfl | (rw [show (nI j).toInt = (j : Int) from (nI_T j (by omega))]; done) | (rw [show (nI j).toInt = (j : Int) from (nI_T j (by omega))]; exact (Int.toNat_natCast _))) h6 (by omega)) (call_b hC.ts TC_X10_other TN_X10 TM_X10_161 hd_X10_other ⟨Nat.le_of_ble_eq_true rfl, Nat.le_of_ble_eq_true rfl⟩) TI_X10_other TS_X10_other (ct_model G _ _) rfl rfl rfl (Nat.le_of_ble_eq_true rfl) dX10_goes_287 ⟨Nat.le_of_ble_eq_true rfl, Nat.le_of_ble_eq_true rfl⟩) hS (fun v_414 H locs w_415 hR hS => ?_)
                                      subst w_415
                                      refine lv_iconst (v := (-1)) hC.x hC.b dX10_goes_290 (by decide) ?_
                                      refine bi_eq (tgt := 319) (a := (otherM s4 j h6).toInt) (b := (-1)) hC.x hC.b rfl rfl dX10_goes_291 (by decide) (fun c_416 => ?_) (fun c_416 => ?_)
                                      · skip
                                        refine lv_iinc (v := nI (j + 1)) (lv' := [(7, .int (nI (j + 1))), (0, .ref (G.2.1 35)), (1, .int xa), (2, .int ya), (3, .int hr), (5, .int b5), (6, .int h6)]) hC.x hC.b dX10_goes_319 hl (k := 6) rfl (nI_succ _).symm (by decide) rfl (fun ls hl => ?_)
                                        refine lv_goto (tgt := 261) hC.x hC.b dX10_goes_322 (by decide) ?_
                                        exact ih_261 (j + 1) (by omega) (by refine ⟨lw, ?_, lw2, lw3⟩; rcases Nat.eq_or_lt_of_le lw1 with e9 | e9; (exfalso; subst e9; obtain ⟨g1, g2, g3, g4, g5⟩ := lw3; omega); omega) _ _ _ hR hS (lv_sub hl [1, 2, 3, 4, 5, 6, 0] rfl)
                                      · skip
                                        have rd_417 : (s4 36 j).toInt = (σ 36 j).toInt := congrArg Int32.toInt (show s4 36 j = σ 36 j from congrFun (hi5_251.1 36 (by omega) (by first | omega | (dsimp only; omega) | (intro h; exact h))) j)
                                        have hlj := hln j (by omega) ⟨by omega, by omega⟩
                                        have hoi := otherM_in (σ := s4) (j := j) (h6 := h6) (by rw [hi5_251.1 37 (by omega) (by omega), hi5_251.1 38 (by omega) (by omega)]; exact hlj) (by omega)
                                        have hb6 : 0 ≤ (s4 68 h6.toInt.toNat).toInt ∧ (s4 68 h6.toInt.toNat).toInt ≤ 99 := hi1_251.1 _ (by omega)
                                        have hbo : 0 ≤ (s4 68 (otherM s4 j h6).toInt.toNat).toInt ∧ (s4 68 (otherM s4 j h6).toInt.toNat).toInt ≤ 99 := hi1_251.1 _ (by omega)
                                        refine lv_aload_n hC.x hC.b dX10_goes_294 rfl (lv_at hl 0 rfl) ?_
                                        refine rget hC hK hR (ct_model G _ _) rfl uin_X10 38 (by decide) TF_X10_117 rfl dX10_goes_295 ?_
                                        refine lv_aload_n hC.x hC.b dX10_goes_298 rfl (lv_at hl 0 rfl) ?_
                                        refine lv_iload hC.x hC.b dX10_goes_299 (lv_at hl 6 rfl) ?_
                                        refine lv_iload hC.x hC.b dX10_goes_301 (lv_at hl 5 rfl) ?_
                                        have av_418 : (nI j).toInt = (j : Int) := (nI_T j (by omega))
                                        refine goip (runV (As := [.int (nI j), .int h6]) (rest := [.ref (G.2.1 68)]) hC hK hR hl.1 (c_X10_other l hG s4 τ (nI j) j (by first | rfl | (rw [show (nI j).toInt = (j : Int) from (nI_T j (by omega))]; done) | (rw [show (nI j).toInt = (j : Int) from (nI_T j (by omega))]; exact (Int.toNat_natCast _))) h6 (by omega)) (call_b hC.ts TC_X10_other TN_X10 TM_X10_161 hd_X10_other ⟨Nat.le_of_ble_eq_true rfl, Nat.le_of_ble_eq_true rfl⟩) TI_X10_other TS_X10_other (ct_model G _ _) rfl rfl rfl (Nat.le_of_ble_eq_true rfl) dX10_goes_303 ⟨Nat.le_of_ble_eq_true rfl, Nat.le_of_ble_eq_true rfl⟩) hS (fun v_419 H locs w_420 hR hS => ?_)
                                        subst w_420
                                        refine ald hC hK hR (ct_m_far G _ _) rfl (by omega) (by omega) rfl dX10_goes_306 ?_
                                        refine lv_aload_n hC.x hC.b dX10_goes_307 rfl (lv_at hl 0 rfl) ?_
                                        refine rget hC hK hR (ct_model G _ _) rfl uin_X10 38 (by decide) TF_X10_117 rfl dX10_goes_308 ?_
                                        refine lv_iload hC.x hC.b dX10_goes_311 (lv_at hl 5 rfl) ?_
                                        refine ald hC hK hR (ct_m_far G _ _) rfl (by omega) (by omega) rfl dX10_goes_313 ?_
                                        refine lv_iconst (v := 1) hC.x hC.b dX10_goes_314 (by decide) ?_
                                        refine lv_isub hC.x hC.b dX10_goes_315 ?_
                                        have pr_421 : ((s4 68 h6.toInt.toNat) - (1 : Int32)).toInt = ((s4 68 h6.toInt.toNat).toInt - 1) := subI rfl rfl (by omega) (by omega)
                                        refine bi_eq (tgt := 325) (a := (s4 68 (((otherM s4 j h6).toInt).toNat)).toInt) (b := ((s4 68 h6.toInt.toNat).toInt - 1)) hC.x hC.b rfl pr_421 dX10_goes_316 (by decide) (fun c_422 => ?_) (fun c_422 => ?_)
                                        · skip
                                          refine lv_aload_n hC.x hC.b dX10_goes_325 rfl (lv_at hl 0 rfl) ?_
                                          refine lv_dup hC.x hC.b dX10_goes_326 rfl ?_
                                          refine rget hC hK hR (ct_model G _ _) rfl uin_X10 43 (by decide) TF_X10_158 rfl dX10_goes_327 ?_
                                          refine lv_aload_n hC.x hC.b dX10_goes_330 rfl (lv_at hl 0 rfl) ?_
                                          refine rget hC hK hR (ct_model G _ _) rfl uin_X10 1 (by decide) TF_X10_13 rfl dX10_goes_331 ?_
                                          refine lv_iload hC.x hC.b dX10_goes_334 (lv_at hl 6 rfl) ?_
                                          refine ald hC hK hR (ct_m_one G _ _) (nI_T j (by omega)) (by omega) (by omega) (Int.toNat_natCast _) dX10_goes_336 ?_
                                          rw [show s4 37 j = (σ 37 j) from (show s4 37 j = σ 37 j from congrFun (hi5_251.1 37 (by omega) (by first | omega | (dsimp only; omega) | (intro h; exact h))) j)]
                                          refine lv_iload hC.x hC.b dX10_goes_337 (lv_at hl 5 rfl) ?_
                                          refine bi_ne (tgt := 352) (a := (σ 37 j).toInt) (b := h6.toInt) hC.x hC.b rfl rfl dX10_goes_339 (by decide) (fun c_423 => ?_) (fun c_423 => ?_)
                                          · skip
                                            refine lv_aload_n hC.x hC.b dX10_goes_352 rfl (lv_at hl 0 rfl) ?_
                                            refine lv_iload hC.x hC.b dX10_goes_353 (lv_at hl 6 rfl) ?_
                                            refine lv_iload_n hC.x hC.b dX10_goes_355 rfl (lv_at hl 3 rfl) ?_
                                            have av_424 : (nI j).toInt = (j : Int) := (nI_T j (by omega))
                                            have rd_425 : (s4 35 29).toInt = (σ 35 29).toInt := congrArg Int32.toInt (show s4 35 29 = σ 35 29 from hi5_251.2 29 (by first | omega | (dsimp only; omega)))
                                            refine goip (runV (As := [.int (nI j), .int hr]) (rest := [.int (s4 35 43), .ref (G.2.1 35)]) hC hK hR hl.1 (c_X10_told l hG s4 τ (nI j) j (by first | rfl | (rw [show (nI j).toInt = (j : Int) from (nI_T j (by omega))]; done) | (rw [show (nI j).toInt = (j : Int) from (nI_T j (by omega))]; exact (Int.toNat_natCast _))) hr hq (by first | rfl | (rw [show hr.toInt = hr.toInt from rfl]; done) | (rw [show hr.toInt = hr.toInt from rfl]; exact hp_hq)) (by first | assumption | omega) (by omega)) (call_b hC.ts TC_X10_told TN_X10 TM_X10_152 hd_X10_told ⟨Nat.le_of_ble_eq_true rfl, Nat.le_of_ble_eq_true rfl⟩) TI_X10_told TS_X10_told (ct_model G _ _) rfl rfl rfl (Nat.le_of_ble_eq_true rfl) dX10_goes_356 ⟨Nat.le_of_ble_eq_true rfl, Nat.le_of_ble_eq_true rfl⟩) hS (fun v_426 H locs w_427 hR hS => ?_)
                                            subst w_427
                                            refine lv_ineg hC.x hC.b dX10_goes_359 ?_
                                            refine lv_iadd hC.x hC.b dX10_goes_360 ?_
                                            refine rputi hC hK hG hR hS (ct_model G _ _) rfl uin_X10 tyX10 tyX10_ok nmX10 43 (by decide) TF_X10_158 rfl (Or.inl rfl) (Nat.le_of_ble_eq_true rfl) rfl (ct_model G _ _) dX10_goes_361 (fun s_429 es_428 H locs hR hS => ?_)
                                            refine lv_aload_n hC.x hC.b dX10_goes_364 rfl (lv_at hl 0 rfl) ?_
                                            refine rget hC hK hR (ct_model G _ _) rfl uin_X10 39 (by decide) TF_X10_120 rfl dX10_goes_365 ?_
                                            refine lv_aload_n hC.x hC.b dX10_goes_368 rfl (lv_at hl 0 rfl) ?_
                                            refine rget hC hK hR (ct_model G _ _) rfl uin_X10 41 (by decide) TF_X10_155 rfl dX10_goes_369 ?_
                                            rw [show s_429 35 41 = (s4 35 41) from (show s_429 35 41 = s4 35 41 from (by rw [es_428]; exact up2_n (by omega)))]
                                            refine lv_iload hC.x hC.b dX10_goes_372 (lv_at hl 6 rfl) ?_
                                            refine ast hC hK hG hR hS (fun _ => ct_m_going G _ _) rfl (by omega) (by omega) rfl dX10_goes_374 (fun s_430 es_431 H locs hR hS => ?_)
                                            refine lv_aload_n hC.x hC.b dX10_goes_375 rfl (lv_at hl 0 rfl) ?_
                                            refine lv_dup hC.x hC.b dX10_goes_376 rfl ?_
                                            refine rget hC hK hR (ct_model G _ _) rfl uin_X10 41 (by decide) TF_X10_155 rfl dX10_goes_377 ?_
                                            rw [show s_430 35 41 = (s4 35 41) from (Eq.trans (show s_430 35 41 = s_429 35 41 from (by rw [es_431]; exact up2_o (by omega))) (show s_429 35 41 = s4 35 41 from (by rw [es_428]; exact up2_n (by omega))))]
                                            refine lv_iconst (v := 1) hC.x hC.b dX10_goes_380 (by decide) ?_
                                            refine lv_iadd hC.x hC.b dX10_goes_381 ?_
                                            have pr_432 : ((s4 35 41) + (1 : Int32)).toInt = ((s4 35 41).toInt + 1) := addI rfl rfl (by omega) (by omega)
                                            refine rputi hC hK hG hR hS (ct_model G _ _) rfl uin_X10 tyX10 tyX10_ok nmX10 41 (by decide) TF_X10_155 rfl (Or.inl rfl) (Nat.le_of_ble_eq_true rfl) rfl (ct_model G _ _) dX10_goes_382 (fun s_434 es_433 H locs hR hS => ?_)
                                            refine lv_aload_n hC.x hC.b dX10_goes_385 rfl (lv_at hl 0 rfl) ?_
                                            refine lv_iload hC.x hC.b dX10_goes_386 (lv_at hl 6 rfl) ?_
                                            refine lv_iload hC.x hC.b dX10_goes_388 (lv_at hl 5 rfl) ?_
                                            have av_435 : (nI j).toInt = (j : Int) := (nI_T j (by omega))
                                            refine goip (runV (As := [.int (nI j), .int h6]) (rest := []) hC hK hR hl.1 (c_X10_other l hG s_434 τ (nI j) j (by first | rfl | (rw [show (nI j).toInt = (j : Int) from (nI_T j (by omega))]; done) | (rw [show (nI j).toInt = (j : Int) from (nI_T j (by omega))]; exact (Int.toNat_natCast _))) h6 (by omega)) (call_b hC.ts TC_X10_other TN_X10 TM_X10_161 hd_X10_other ⟨Nat.le_of_ble_eq_true rfl, Nat.le_of_ble_eq_true rfl⟩) TI_X10_other TS_X10_other (ct_model G _ _) rfl rfl rfl (Nat.le_of_ble_eq_true rfl) dX10_goes_390 ⟨Nat.le_of_ble_eq_true rfl, Nat.le_of_ble_eq_true rfl⟩) hS (fun v_436 H locs w_437 hR hS => ?_)
                                            subst w_437
                                            have hoe : otherM s_434 j h6 = otherM s4 j h6 := by subst es_433; subst es_431; subst es_428; rfl
                                            refine lv_topi (fun x_438 ex_439 => ?_)
                                            refine lv_istore (lv' := [(6, .int x_438), (0, .ref (G.2.1 35)), (1, .int xa), (2, .int ya), (3, .int hr), (5, .int b5), (7, .int (nI j))]) hC.x hC.b dX10_goes_393 hl (by decide) rfl (fun ls hl => ?_)
                                            have rd_440 : (s_434 35 41).toInt = ((s4 35 41) + (1 : Int32)).toInt := congrArg Int32.toInt (show s_434 35 41 = ((s4 35 41) + (1 : Int32)) from (by rw [es_433]; exact up2_s))
                                            have rd_441 : (s_434 68 x_438.toInt.toNat).toInt = (s4 68 x_438.toInt.toNat).toInt := congrArg Int32.toInt (Eq.trans (show s_434 68 x_438.toInt.toNat = s_430 68 x_438.toInt.toNat from (by rw [es_433]; exact up2_o (by omega))) (Eq.trans (show s_430 68 x_438.toInt.toNat = s_429 68 x_438.toInt.toNat from (by rw [es_431]; exact up2_o (by omega))) (show s_429 68 x_438.toInt.toNat = s4 68 x_438.toInt.toNat from (by rw [es_428]; exact up2_o (by omega)))))
                                            have hx6 : x_438.toInt = (otherM s4 j h6).toInt := by rw [ex_439, hoe]
                                            have hx7 : (s4 68 x_438.toInt.toNat).toInt = (s4 68 (otherM s4 j h6).toInt.toNat).toInt := by rw [hx6]
                                            refine lv_goto (tgt := 251) hC.x hC.b dX10_goes_395 (by decide) ?_
                                            exact ih_251 x_438 s_434 (by omega) (by first | omega | assumption) (by subst es_433; subst es_431; subst es_428; exact hi1_251) (by subst es_433; subst es_431; subst es_428; exact hi2_251) (by first | omega | assumption) (by first | omega | assumption) (by rw [es_433]; exact MRel.upm ((by rw [es_431]; exact MRel.up ((by rw [es_428]; exact MRel.upm (hi5_251) (by first | omega | (dsimp only; omega)))) (by omega) (by first | omega | (dsimp only; omega)))) (by first | omega | (dsimp only; omega))) _ _ _ hR hS (lv_sub hl [1, 2, 3, 4, 5, 0] rfl)
                                          · skip
                                            refine lv_aload_n hC.x hC.b dX10_goes_342 rfl (lv_at hl 0 rfl) ?_
                                            refine lv_iload hC.x hC.b dX10_goes_343 (lv_at hl 6 rfl) ?_
                                            refine lv_iload_n hC.x hC.b dX10_goes_345 rfl (lv_at hl 3 rfl) ?_
                                            have av_442 : (nI j).toInt = (j : Int) := (nI_T j (by omega))
                                            have rd_443 : (s4 35 29).toInt = (σ 35 29).toInt := congrArg Int32.toInt (show s4 35 29 = σ 35 29 from hi5_251.2 29 (by first | omega | (dsimp only; omega)))
                                            refine goip (runV (As := [.int (nI j), .int hr]) (rest := [.int (s4 35 43), .ref (G.2.1 35)]) hC hK hR hl.1 (c_X10_told l hG s4 τ (nI j) j (by first | rfl | (rw [show (nI j).toInt = (j : Int) from (nI_T j (by omega))]; done) | (rw [show (nI j).toInt = (j : Int) from (nI_T j (by omega))]; exact (Int.toNat_natCast _))) hr hq (by first | rfl | (rw [show hr.toInt = hr.toInt from rfl]; done) | (rw [show hr.toInt = hr.toInt from rfl]; exact hp_hq)) (by first | assumption | omega) (by omega)) (call_b hC.ts TC_X10_told TN_X10 TM_X10_152 hd_X10_told ⟨Nat.le_of_ble_eq_true rfl, Nat.le_of_ble_eq_true rfl⟩) TI_X10_told TS_X10_told (ct_model G _ _) rfl rfl rfl (Nat.le_of_ble_eq_true rfl) dX10_goes_346 ⟨Nat.le_of_ble_eq_true rfl, Nat.le_of_ble_eq_true rfl⟩) hS (fun v_444 H locs w_445 hR hS => ?_)
                                            subst w_445
                                            refine lv_goto (tgt := 360) hC.x hC.b dX10_goes_349 (by decide) ?_
                                            refine lv_iadd hC.x hC.b dX10_goes_360 ?_
                                            refine rputi hC hK hG hR hS (ct_model G _ _) rfl uin_X10 tyX10 tyX10_ok nmX10 43 (by decide) TF_X10_158 rfl (Or.inl rfl) (Nat.le_of_ble_eq_true rfl) rfl (ct_model G _ _) dX10_goes_361 (fun s_447 es_446 H locs hR hS => ?_)
                                            refine lv_aload_n hC.x hC.b dX10_goes_364 rfl (lv_at hl 0 rfl) ?_
                                            refine rget hC hK hR (ct_model G _ _) rfl uin_X10 39 (by decide) TF_X10_120 rfl dX10_goes_365 ?_
                                            refine lv_aload_n hC.x hC.b dX10_goes_368 rfl (lv_at hl 0 rfl) ?_
                                            refine rget hC hK hR (ct_model G _ _) rfl uin_X10 41 (by decide) TF_X10_155 rfl dX10_goes_369 ?_
                                            rw [show s_447 35 41 = (s4 35 41) from (show s_447 35 41 = s4 35 41 from (by rw [es_446]; exact up2_n (by omega)))]
                                            refine lv_iload hC.x hC.b dX10_goes_372 (lv_at hl 6 rfl) ?_
                                            refine ast hC hK hG hR hS (fun _ => ct_m_going G _ _) rfl (by omega) (by omega) rfl dX10_goes_374 (fun s_448 es_449 H locs hR hS => ?_)
                                            refine lv_aload_n hC.x hC.b dX10_goes_375 rfl (lv_at hl 0 rfl) ?_
                                            refine lv_dup hC.x hC.b dX10_goes_376 rfl ?_
                                            refine rget hC hK hR (ct_model G _ _) rfl uin_X10 41 (by decide) TF_X10_155 rfl dX10_goes_377 ?_
                                            rw [show s_448 35 41 = (s4 35 41) from (Eq.trans (show s_448 35 41 = s_447 35 41 from (by rw [es_449]; exact up2_o (by omega))) (show s_447 35 41 = s4 35 41 from (by rw [es_446]; exact up2_n (by omega))))]
                                            refine lv_iconst (v := 1) hC.x hC.b dX10_goes_380 (by decide) ?_
                                            refine lv_iadd hC.x hC.b dX10_goes_381 ?_
                                            have pr_450 : ((s4 35 41) + (1 : Int32)).toInt = ((s4 35 41).toInt + 1) := addI rfl rfl (by omega) (by omega)
                                            refine rputi hC hK hG hR hS (ct_model G _ _) rfl uin_X10 tyX10 tyX10_ok nmX10 41 (by decide) TF_X10_155 rfl (Or.inl rfl) (Nat.le_of_ble_eq_true rfl) rfl (ct_model G _ _) dX10_goes_382 (fun s_452 es_451 H locs hR hS => ?_)
                                            refine lv_aload_n hC.x hC.b dX10_goes_385 rfl (lv_at hl 0 rfl) ?_
                                            refine lv_iload hC.x hC.b dX10_goes_386 (lv_at hl 6 rfl) ?_
                                            refine lv_iload hC.x hC.b dX10_goes_388 (lv_at hl 5 rfl) ?_
                                            have av_453 : (nI j).toInt = (j : Int) := (nI_T j (by omega))
                                            refine goip (runV (As := [.int (nI j), .int h6]) (rest := []) hC hK hR hl.1 (c_X10_other l hG s_452 τ (nI j) j (by first | rfl | (rw [show (nI j).toInt = (j : Int) from (nI_T j (by omega))]; done) | (rw [show (nI j).toInt = (j : Int) from (nI_T j (by omega))]; exact (Int.toNat_natCast _))) h6 (by omega)) (call_b hC.ts TC_X10_other TN_X10 TM_X10_161 hd_X10_other ⟨Nat.le_of_ble_eq_true rfl, Nat.le_of_ble_eq_true rfl⟩) TI_X10_other TS_X10_other (ct_model G _ _) rfl rfl rfl (Nat.le_of_ble_eq_true rfl) dX10_goes_390 ⟨Nat.le_of_ble_eq_true rfl, Nat.le_of_ble_eq_true rfl⟩) hS (fun v_454 H locs w_455 hR hS => ?_)
                                            subst w_455
                                            have hoe : otherM s_452 j h6 = otherM s4 j h6 := by subst es_451; subst es_449; subst es_446; rfl
                                            refine lv_topi (fun x_456 ex_457 => ?_)
                                            refine lv_istore (lv' := [(6, .int x_456), (0, .ref (G.2.1 35)), (1, .int xa), (2, .int ya), (3, .int hr), (5, .int b5), (7, .int (nI j))]) hC.x hC.b dX10_goes_393 hl (by decide) rfl (fun ls hl => ?_)
                                            have rd_458 : (s_452 35 41).toInt = ((s4 35 41) + (1 : Int32)).toInt := congrArg Int32.toInt (show s_452 35 41 = ((s4 35 41) + (1 : Int32)) from (by rw [es_451]; exact up2_s))
                                            have rd_459 : (s_452 68 x_456.toInt.toNat).toInt = (s4 68 x_456.toInt.toNat).toInt := congrArg Int32.toInt (Eq.trans (show s_452 68 x_456.toInt.toNat = s_448 68 x_456.toInt.toNat from (by rw [es_451]; exact up2_o (by omega))) (Eq.trans (show s_448 68 x_456.toInt.toNat = s_447 68 x_456.toInt.toNat from (by rw [es_449]; exact up2_o (by omega))) (show s_447 68 x_456.toInt.toNat = s4 68 x_456.toInt.toNat from (by rw [es_446]; exact up2_o (by omega)))))
                                            have hx6 : x_456.toInt = (otherM s4 j h6).toInt := by rw [ex_457, hoe]
                                            have hx7 : (s4 68 x_456.toInt.toNat).toInt = (s4 68 (otherM s4 j h6).toInt.toNat).toInt := by rw [hx6]
                                            refine lv_goto (tgt := 251) hC.x hC.b dX10_goes_395 (by decide) ?_
                                            exact ih_251 x_456 s_452 (by omega) (by first | omega | assumption) (by subst es_451; subst es_449; subst es_446; exact hi1_251) (by subst es_451; subst es_449; subst es_446; exact hi2_251) (by first | omega | assumption) (by first | omega | assumption) (by rw [es_451]; exact MRel.upm ((by rw [es_449]; exact MRel.up ((by rw [es_446]; exact MRel.upm (hi5_251) (by first | omega | (dsimp only; omega)))) (by omega) (by first | omega | (dsimp only; omega)))) (by first | omega | (dsimp only; omega))) _ _ _ hR hS (lv_sub hl [1, 2, 3, 4, 5, 0] rfl)
                                        · skip
                                          refine lv_iinc (v := nI (j + 1)) (lv' := [(7, .int (nI (j + 1))), (0, .ref (G.2.1 35)), (1, .int xa), (2, .int ya), (3, .int hr), (5, .int b5), (6, .int h6)]) hC.x hC.b dX10_goes_319 hl (k := 6) rfl (nI_succ _).symm (by decide) rfl (fun ls hl => ?_)
                                          refine lv_goto (tgt := 261) hC.x hC.b dX10_goes_322 (by decide) ?_
                                          exact ih_261 (j + 1) (by omega) (by refine ⟨lw, ?_, lw2, lw3⟩; rcases Nat.eq_or_lt_of_le lw1 with e9 | e9; (exfalso; subst e9; obtain ⟨g1, g2, g3, g4, g5⟩ := lw3; omega); omega) _ _ _ hR hS (lv_sub hl [1, 2, 3, 4, 5, 6, 0] rfl)
                                  · skip
                                    refine bz_eq (tgt := 319) (a := 0) (b := 0) hC.x hC.b rfl rfl dX10_goes_267 (by decide) (fun _ => ?_) (fun c_460 => absurd c_460 (by decide))
                                    refine lv_iinc (v := nI (j + 1)) (lv' := [(7, .int (nI (j + 1))), (0, .ref (G.2.1 35)), (1, .int xa), (2, .int ya), (3, .int hr), (5, .int b5), (6, .int h6)]) hC.x hC.b dX10_goes_319 hl (k := 6) rfl (nI_succ _).symm (by decide) rfl (fun ls hl => ?_)
                                    refine lv_goto (tgt := 261) hC.x hC.b dX10_goes_322 (by decide) ?_
                                    exact ih_261 (j + 1) (by omega) (by refine ⟨lw, ?_, lw2, lw3⟩; rcases Nat.eq_or_lt_of_le lw1 with e9 | e9; (exfalso; subst e9; obtain ⟨g1, g2, g3, g4, g5⟩ := lw3; omega); omega) _ _ _ hR hS (lv_sub hl [1, 2, 3, 4, 5, 6, 0] rfl)
                              exact L_261 _ 0 (Nat.lt_succ_self _) (by exact gd_ex hln hi5_251 hi1_251 hi2_251 hi0_251 (by omega) (by have hb6 := (hi1_251.1 h6.toInt.toNat (by omega)); omega)) _ _ _ hR hS (lv_sub hl [1, 2, 3, 4, 5, 6, 0] rfl)
                        exact L_251 _ a4 s_380 (Nat.lt_succ_self _) (by first | omega | assumption) (by subst es_379; subst es_377; exact hi1_60) (by subst es_379; subst es_377; exact hL24) (by first | omega | assumption) (by first | omega | assumption) (by rw [es_379]; exact MRel.upm ((by rw [es_377]; exact MRel.upm (hi3_60) (by first | omega | (dsimp only; omega)))) (by first | omega | (dsimp only; omega))) _ _ _ hR hS (lv_sub hl [1, 2, 3, 4, 6, 0] rfl)
                      · skip
                        refine lv_iconst (v := 0) hC.x hC.b dX10_goes_245 (by decide) ?_
                        have rd_461 : (s_380 35 41).toInt = 0 := (congrArg Int32.toInt (Eq.trans (show s_380 35 41 = s_378 35 41 from (by rw [es_379]; exact up2_n (by omega))) (show s_378 35 41 = (0 : Int32) from (by rw [es_377]; exact up2_s)))).trans (by decide)
                        exact retz hC hK hR hS (Or.inl rfl) (by first | exact Or.inr ((⟨by subst es_379; subst es_377; (first | rfl | omega), by exact (by rw [es_379]; exact MRel.upm ((by rw [es_377]; exact MRel.upm (hi3_60) (by first | omega | (dsimp only; omega)))) (by first | omega | (dsimp only; omega))), by first | omega | (dsimp only; omega)⟩)) | exact False.elim (by omega)) dX10_goes_246
                    · skip
                      refine lv_iconst (v := 0) hC.x hC.b dX10_goes_67 (by decide) ?_
                      refine lv_istore (lv' := [(7, .int (0 : Int32)), (0, .ref (G.2.1 35)), (1, .int xa), (2, .int ya), (3, .int hr), (4, .int a4), (5, .int b5), (6, .int (nI n6))]) hC.x hC.b dX10_goes_68 hl (by decide) rfl (fun ls hl => ?_)
                      have L_70 : ∀ (F : Nat) (j : Nat) (s3 : SI), (24 - j) < F → (j ≤ 24) → (BFI (UM σ hr hq) (xM σ) (yM σ) b5.toInt.toNat (fM s3)) → (BFL (UM σ hr hq) (xM σ) (yM σ) (n6 : Int) j (fM s3)) → (MRel (fun k => k = 68 ∨ k = 69) (fun j => j = 41 ∨ j = 43) σ s3) → ∀ (H : Heap) (locs : List Loc) (ls : Array Slot), RepH G s3 τ H → va_S A s.heap H locs → lv_has ls 9 [(0, .ref (G.2.1 35)), (1, .int xa), (2, .int ya), (3, .int hr), (4, .int a4), (5, .int b5), (6, .int (nI n6)), (7, .int (nI j))] → W p l e (rmD 2) s m args below meth c H locs 0 0 (MQ below (va_Qi (po_X10_goes σ τ xa xq ya yq hr hq) (BU G) A) args s 0 0 A) (F0 m 70 ls []) := by
                        intro F
                        induction F with
                        | zero => intro j s3 hm; exact absurd hm (Nat.not_lt_zero _)
                        | succ F ih_70 =>
                          intro j s3 hm_70 hi0_70 hi1_70 hi2_70 hi3_70 H locs ls hR hS hl
                          have hnI := nI_T j (by omega)
                          refine lv_iload hC.x hC.b dX10_goes_70 (lv_at hl 7 rfl) ?_
                          refine lv_bipush (v := 24) hC.x hC.b dX10_goes_72 (by decide) ?_
                          refine bi_ge (tgt := 217) (a := (j : Int)) (b := 24) hC.x hC.b (nI_T j (by omega)) rfl dX10_goes_74 (by decide) (fun c_462 => ?_) (fun c_462 => ?_)
                          · skip
                            refine lv_iinc (v := nI (n6 + 1)) (lv' := [(6, .int (nI (n6 + 1))), (0, .ref (G.2.1 35)), (1, .int xa), (2, .int ya), (3, .int hr), (4, .int a4), (5, .int b5), (7, .int (nI j))]) hC.x hC.b dX10_goes_217 hl (k := 6) rfl (nI_succ _).symm (by decide) rfl (fun ls hl => ?_)
                            refine lv_goto (tgt := 60) hC.x hC.b dX10_goes_220 (by decide) ?_
                            exact ih_60 (n6 + 1) s3 (by omega) (by first | omega | assumption) (by exact hi1_70) (by (have hj : j = 24 := by omega); subst hj; rw [show (((n6 + 1 : Nat)) : Int) = (n6 : Int) + 1 by omega]; exact hi2_70.rd) hi3_70 _ _ _ hR hS (lv_sub hl [1, 2, 3, 4, 5, 6, 0] rfl)
                          · skip
                            refine lv_aload_n hC.x hC.b dX10_goes_77 rfl (lv_at hl 0 rfl) ?_
                            refine lv_iload hC.x hC.b dX10_goes_78 (lv_at hl 7 rfl) ?_
                            have av_463 : (nI j).toInt = (j : Int) := (nI_T j (by omega))
                            refine goip (runV (As := [.int (nI j)]) (rest := []) hC hK hR hl.1 (c_X10_isLink l hG s3 τ (nI j) j (by first | rfl | (rw [show (nI j).toInt = (j : Int) from (nI_T j (by omega))]; done) | (rw [show (nI j).toInt = (j : Int) from (nI_T j (by omega))]; exact (Int.toNat_natCast _))) ) (call_b hC.ts TC_X10_isLink TN_X10 TM_X10_148 hd_X10_isLink ⟨Nat.le_of_ble_eq_true rfl, Nat.le_of_ble_eq_true rfl⟩) TI_X10_isLink TS_X10_isLink (ct_model G _ _) rfl rfl rfl (Nat.le_of_ble_eq_true rfl) dX10_goes_80 ⟨Nat.le_of_ble_eq_true rfl, Nat.le_of_ble_eq_true rfl⟩) hS (fun v_464 H locs w_465 hR hS => ?_)
                            rcases w_465 with ⟨rfl, f_466, f_467⟩ | ⟨rfl, f_468⟩
                            · skip
                              refine bz_eq (tgt := 211) (a := 1) (b := 0) hC.x hC.b rfl rfl dX10_goes_83 (by decide) (fun c_469 => absurd c_469 (by decide)) (fun _ => ?_)
                              refine lv_aload_n hC.x hC.b dX10_goes_86 rfl (lv_at hl 0 rfl) ?_
                              refine lv_iload hC.x hC.b dX10_goes_87 (lv_at hl 7 rfl) ?_
                              refine lv_iload_n hC.x hC.b dX10_goes_89 rfl (lv_at hl 3 rfl) ?_
                              have av_470 : (nI j).toInt = (j : Int) := (nI_T j (by omega))
                              have rd_471 : (s3 35 29).toInt = (σ 35 29).toInt := congrArg Int32.toInt (show s3 35 29 = σ 35 29 from hi3_70.2 29 (by first | omega | (dsimp only; omega)))
                              refine goip (runV (As := [.int (nI j), .int hr]) (rest := []) hC hK hR hl.1 (c_X10_told l hG s3 τ (nI j) j (by first | rfl | (rw [show (nI j).toInt = (j : Int) from (nI_T j (by omega))]; done) | (rw [show (nI j).toInt = (j : Int) from (nI_T j (by omega))]; exact (Int.toNat_natCast _))) hr hq (by first | rfl | (rw [show hr.toInt = hr.toInt from rfl]; done) | (rw [show hr.toInt = hr.toInt from rfl]; exact hp_hq)) (by first | assumption | omega) (by omega)) (call_b hC.ts TC_X10_told TN_X10 TM_X10_152 hd_X10_told ⟨Nat.le_of_ble_eq_true rfl, Nat.le_of_ble_eq_true rfl⟩) TI_X10_told TS_X10_told (ct_model G _ _) rfl rfl rfl (Nat.le_of_ble_eq_true rfl) dX10_goes_90 ⟨Nat.le_of_ble_eq_true rfl, Nat.le_of_ble_eq_true rfl⟩) hS (fun v_472 H locs w_473 hR hS => ?_)
                              subst w_473
                              refine lv_ldc hC.x hC.b hC.ow (hC.ts _ TK_X10_151) dX10_goes_93 ?_
                              refine bi_ne (tgt := 101) (a := (toldM s3 j hr hq).toInt) (b := 1000000) hC.x hC.b rfl rfl dX10_goes_95 (by decide) (fun c_474 => ?_) (fun c_474 => ?_)
                              · skip
                                have rd_475 : (s3 36 j).toInt = (σ 36 j).toInt := congrArg Int32.toInt (show s3 36 j = σ 36 j from congrFun (hi3_70.1 36 (by omega) (by first | omega | (dsimp only; omega) | (intro h; exact h))) j)
                                have hU : UM σ hr hq j := ⟨by omega, by omega, by rw [← toldM_g (q := j) (hr := hr) (hq := hq) hi3_70]; omega⟩
                                have hlj := hln j (by omega) ⟨by omega, by omega⟩
                                have hbx : 0 ≤ (s3 68 (σ 37 j).toInt.toNat).toInt ∧ (s3 68 (σ 37 j).toInt.toNat).toInt ≤ 99 := hi1_70.1 _ (by omega)
                                have hby : 0 ≤ (s3 68 (σ 38 j).toInt.toNat).toInt ∧ (s3 68 (σ 38 j).toInt.toNat).toInt ≤ 99 := hi1_70.1 _ (by omega)
                                refine lv_aload_n hC.x hC.b dX10_goes_101 rfl (lv_at hl 0 rfl) ?_
                                refine rget hC hK hR (ct_model G _ _) rfl uin_X10 38 (by decide) TF_X10_117 rfl dX10_goes_102 ?_
                                refine lv_aload_n hC.x hC.b dX10_goes_105 rfl (lv_at hl 0 rfl) ?_
                                refine rget hC hK hR (ct_model G _ _) rfl uin_X10 1 (by decide) TF_X10_13 rfl dX10_goes_106 ?_
                                refine lv_iload hC.x hC.b dX10_goes_109 (lv_at hl 7 rfl) ?_
                                refine ald hC hK hR (ct_m_one G _ _) (nI_T j (by omega)) (by omega) (by omega) (Int.toNat_natCast _) dX10_goes_111 ?_
                                rw [show s3 37 j = (σ 37 j) from (show s3 37 j = σ 37 j from congrFun (hi3_70.1 37 (by omega) (by first | omega | (dsimp only; omega) | (intro h; exact h))) j)]
                                refine ald hC hK hR (ct_m_far G _ _) rfl (by omega) (by omega) rfl dX10_goes_112 ?_
                                refine lv_aload_n hC.x hC.b dX10_goes_113 rfl (lv_at hl 0 rfl) ?_
                                refine rget hC hK hR (ct_model G _ _) rfl uin_X10 38 (by decide) TF_X10_117 rfl dX10_goes_114 ?_
                                refine lv_aload_n hC.x hC.b dX10_goes_117 rfl (lv_at hl 0 rfl) ?_
                                refine rget hC hK hR (ct_model G _ _) rfl uin_X10 2 (by decide) TF_X10_16 rfl dX10_goes_118 ?_
                                refine lv_iload hC.x hC.b dX10_goes_121 (lv_at hl 7 rfl) ?_
                                refine ald hC hK hR (ct_m_two G _ _) (nI_T j (by omega)) (by omega) (by omega) (Int.toNat_natCast _) dX10_goes_123 ?_
                                rw [show s3 38 j = (σ 38 j) from (show s3 38 j = σ 38 j from congrFun (hi3_70.1 38 (by omega) (by first | omega | (dsimp only; omega) | (intro h; exact h))) j)]
                                refine ald hC hK hR (ct_m_far G _ _) rfl (by omega) (by omega) rfl dX10_goes_124 ?_
                                refine lv_iconst (v := 1) hC.x hC.b dX10_goes_125 (by decide) ?_
                                refine lv_iadd hC.x hC.b dX10_goes_126 ?_
                                have pr_476 : ((s3 68 (((σ 38 j).toInt).toNat)) + (1 : Int32)).toInt = ((s3 68 (((σ 38 j).toInt).toNat)).toInt + 1) := addI rfl rfl (by omega) (by omega)
                                refine bi_le (tgt := 156) (a := (s3 68 (((σ 37 j).toInt).toNat)).toInt) (b := ((s3 68 (((σ 38 j).toInt).toNat)).toInt + 1)) hC.x hC.b rfl pr_476 dX10_goes_127 (by decide) (fun c_477 => ?_) (fun c_477 => ?_)
                                · skip
                                  have hA1 : BFI (UM σ hr hq) (xM σ) (yM σ) b5.toInt.toNat (fM s3) ∧ BFL (UM σ hr hq) (xM σ) (yM σ) (n6 : Int) j (fM s3) ∧ (s3 68 (xM σ j)).toInt ≤ (s3 68 (yM σ j)).toInt + 1 := ⟨hi1_70, hi2_70, by assumption⟩
                                  refine lv_aload_n hC.x hC.b dX10_goes_156 rfl (lv_at hl 0 rfl) ?_
                                  refine rget hC hK hR (ct_model G _ _) rfl uin_X10 38 (by decide) TF_X10_117 rfl dX10_goes_157 ?_
                                  refine lv_aload_n hC.x hC.b dX10_goes_160 rfl (lv_at hl 0 rfl) ?_
                                  refine rget hC hK hR (ct_model G _ _) rfl uin_X10 2 (by decide) TF_X10_16 rfl dX10_goes_161 ?_
                                  refine lv_iload hC.x hC.b dX10_goes_164 (lv_at hl 7 rfl) ?_
                                  refine ald hC hK hR (ct_m_two G _ _) (nI_T j (by omega)) (by omega) (by omega) (Int.toNat_natCast _) dX10_goes_166 ?_
                                  rw [show s3 38 j = (σ 38 j) from (show s3 38 j = σ 38 j from congrFun (hi3_70.1 38 (by omega) (by first | omega | (dsimp only; omega) | (intro h; exact h))) j)]
                                  refine ald hC hK hR (ct_m_far G _ _) rfl (by omega) (by omega) rfl dX10_goes_167 ?_
                                  refine lv_aload_n hC.x hC.b dX10_goes_168 rfl (lv_at hl 0 rfl) ?_
                                  refine rget hC hK hR (ct_model G _ _) rfl uin_X10 38 (by decide) TF_X10_117 rfl dX10_goes_169 ?_
                                  refine lv_aload_n hC.x hC.b dX10_goes_172 rfl (lv_at hl 0 rfl) ?_
                                  refine rget hC hK hR (ct_model G _ _) rfl uin_X10 1 (by decide) TF_X10_13 rfl dX10_goes_173 ?_
                                  refine lv_iload hC.x hC.b dX10_goes_176 (lv_at hl 7 rfl) ?_
                                  refine ald hC hK hR (ct_m_one G _ _) (nI_T j (by omega)) (by omega) (by omega) (Int.toNat_natCast _) dX10_goes_178 ?_
                                  rw [show s3 37 j = (σ 37 j) from (show s3 37 j = σ 37 j from congrFun (hi3_70.1 37 (by omega) (by first | omega | (dsimp only; omega) | (intro h; exact h))) j)]
                                  refine ald hC hK hR (ct_m_far G _ _) rfl (by omega) (by omega) rfl dX10_goes_179 ?_
                                  refine lv_iconst (v := 1) hC.x hC.b dX10_goes_180 (by decide) ?_
                                  refine lv_iadd hC.x hC.b dX10_goes_181 ?_
                                  have pr_478 : ((s3 68 (((σ 37 j).toInt).toNat)) + (1 : Int32)).toInt = ((s3 68 (((σ 37 j).toInt).toNat)).toInt + 1) := addI rfl rfl (by omega) (by omega)
                                  refine bi_le (tgt := 211) (a := (s3 68 (((σ 38 j).toInt).toNat)).toInt) (b := ((s3 68 (((σ 37 j).toInt).toNat)).toInt + 1)) hC.x hC.b rfl pr_478 dX10_goes_182 (by decide) (fun c_479 => ?_) (fun c_479 => ?_)
                                  · skip
                                    have hA2 := bf_a0 hA1 (by show (s3 68 (σ 38 j).toInt.toNat).toInt ≤ (s3 68 (σ 37 j).toInt.toNat).toInt + 1; omega)
                                    refine lv_iinc (v := nI (j + 1)) (lv' := [(7, .int (nI (j + 1))), (0, .ref (G.2.1 35)), (1, .int xa), (2, .int ya), (3, .int hr), (4, .int a4), (5, .int b5), (6, .int (nI n6))]) hC.x hC.b dX10_goes_211 hl (k := 7) rfl (nI_succ _).symm (by decide) rfl (fun ls hl => ?_)
                                    refine lv_goto (tgt := 70) hC.x hC.b dX10_goes_214 (by decide) ?_
                                    exact ih_70 (j + 1) s3 (by omega) (by first | omega | assumption) (by exact hA2.1) (by exact hA2.2) hi3_70 _ _ _ hR hS (lv_sub hl [1, 2, 3, 4, 5, 6, 7, 0] rfl)
                                  · skip
                                    refine lv_aload_n hC.x hC.b dX10_goes_185 rfl (lv_at hl 0 rfl) ?_
                                    refine rget hC hK hR (ct_model G _ _) rfl uin_X10 38 (by decide) TF_X10_117 rfl dX10_goes_186 ?_
                                    refine lv_aload_n hC.x hC.b dX10_goes_189 rfl (lv_at hl 0 rfl) ?_
                                    refine rget hC hK hR (ct_model G _ _) rfl uin_X10 2 (by decide) TF_X10_16 rfl dX10_goes_190 ?_
                                    refine lv_iload hC.x hC.b dX10_goes_193 (lv_at hl 7 rfl) ?_
                                    refine ald hC hK hR (ct_m_two G _ _) (nI_T j (by omega)) (by omega) (by omega) (Int.toNat_natCast _) dX10_goes_195 ?_
                                    rw [show s3 38 j = (σ 38 j) from (show s3 38 j = σ 38 j from congrFun (hi3_70.1 38 (by omega) (by first | omega | (dsimp only; omega) | (intro h; exact h))) j)]
                                    refine lv_aload_n hC.x hC.b dX10_goes_196 rfl (lv_at hl 0 rfl) ?_
                                    refine rget hC hK hR (ct_model G _ _) rfl uin_X10 38 (by decide) TF_X10_117 rfl dX10_goes_197 ?_
                                    refine lv_aload_n hC.x hC.b dX10_goes_200 rfl (lv_at hl 0 rfl) ?_
                                    refine rget hC hK hR (ct_model G _ _) rfl uin_X10 1 (by decide) TF_X10_13 rfl dX10_goes_201 ?_
                                    refine lv_iload hC.x hC.b dX10_goes_204 (lv_at hl 7 rfl) ?_
                                    refine ald hC hK hR (ct_m_one G _ _) (nI_T j (by omega)) (by omega) (by omega) (Int.toNat_natCast _) dX10_goes_206 ?_
                                    rw [show s3 37 j = (σ 37 j) from (show s3 37 j = σ 37 j from congrFun (hi3_70.1 37 (by omega) (by first | omega | (dsimp only; omega) | (intro h; exact h))) j)]
                                    refine ald hC hK hR (ct_m_far G _ _) rfl (by omega) (by omega) rfl dX10_goes_207 ?_
                                    refine lv_iconst (v := 1) hC.x hC.b dX10_goes_208 (by decide) ?_
                                    refine lv_iadd hC.x hC.b dX10_goes_209 ?_
                                    have pr_480 : ((s3 68 (((σ 37 j).toInt).toNat)) + (1 : Int32)).toInt = ((s3 68 (((σ 37 j).toInt).toNat)).toInt + 1) := addI rfl rfl (by omega) (by omega)
                                    refine ast hC hK hG hR hS (fun _ => ct_m_far G _ _) rfl (by omega) (by omega) rfl dX10_goes_210 (fun s_481 es_482 H locs hR hS => ?_)
                                    have hA2 := bf_a2 hln (by omega) hU hA1 (by show (s3 68 (σ 37 j).toInt.toNat).toInt + 1 < (s3 68 (σ 38 j).toInt.toNat).toInt; omega) (by show _ = (s3 68 (σ 37 j).toInt.toNat).toInt + 1; omega) es_482
                                    refine lv_iinc (v := nI (j + 1)) (lv' := [(7, .int (nI (j + 1))), (0, .ref (G.2.1 35)), (1, .int xa), (2, .int ya), (3, .int hr), (4, .int a4), (5, .int b5), (6, .int (nI n6))]) hC.x hC.b dX10_goes_211 hl (k := 7) rfl (nI_succ _).symm (by decide) rfl (fun ls hl => ?_)
                                    refine lv_goto (tgt := 70) hC.x hC.b dX10_goes_214 (by decide) ?_
                                    exact ih_70 (j + 1) s_481 (by omega) (by first | omega | assumption) (by exact hA2.1) (by exact hA2.2) (by rw [es_482]; exact MRel.up (hi3_70) (by omega) (by first | omega | (dsimp only; omega))) _ _ _ hR hS (lv_sub hl [1, 2, 3, 4, 5, 6, 7, 0] rfl)
                                · skip
                                  refine lv_aload_n hC.x hC.b dX10_goes_130 rfl (lv_at hl 0 rfl) ?_
                                  refine rget hC hK hR (ct_model G _ _) rfl uin_X10 38 (by decide) TF_X10_117 rfl dX10_goes_131 ?_
                                  refine lv_aload_n hC.x hC.b dX10_goes_134 rfl (lv_at hl 0 rfl) ?_
                                  refine rget hC hK hR (ct_model G _ _) rfl uin_X10 1 (by decide) TF_X10_13 rfl dX10_goes_135 ?_
                                  refine lv_iload hC.x hC.b dX10_goes_138 (lv_at hl 7 rfl) ?_
                                  refine ald hC hK hR (ct_m_one G _ _) (nI_T j (by omega)) (by omega) (by omega) (Int.toNat_natCast _) dX10_goes_140 ?_
                                  rw [show s3 37 j = (σ 37 j) from (show s3 37 j = σ 37 j from congrFun (hi3_70.1 37 (by omega) (by first | omega | (dsimp only; omega) | (intro h; exact h))) j)]
                                  refine lv_aload_n hC.x hC.b dX10_goes_141 rfl (lv_at hl 0 rfl) ?_
                                  refine rget hC hK hR (ct_model G _ _) rfl uin_X10 38 (by decide) TF_X10_117 rfl dX10_goes_142 ?_
                                  refine lv_aload_n hC.x hC.b dX10_goes_145 rfl (lv_at hl 0 rfl) ?_
                                  refine rget hC hK hR (ct_model G _ _) rfl uin_X10 2 (by decide) TF_X10_16 rfl dX10_goes_146 ?_
                                  refine lv_iload hC.x hC.b dX10_goes_149 (lv_at hl 7 rfl) ?_
                                  refine ald hC hK hR (ct_m_two G _ _) (nI_T j (by omega)) (by omega) (by omega) (Int.toNat_natCast _) dX10_goes_151 ?_
                                  rw [show s3 38 j = (σ 38 j) from (show s3 38 j = σ 38 j from congrFun (hi3_70.1 38 (by omega) (by first | omega | (dsimp only; omega) | (intro h; exact h))) j)]
                                  refine ald hC hK hR (ct_m_far G _ _) rfl (by omega) (by omega) rfl dX10_goes_152 ?_
                                  refine lv_iconst (v := 1) hC.x hC.b dX10_goes_153 (by decide) ?_
                                  refine lv_iadd hC.x hC.b dX10_goes_154 ?_
                                  have pr_483 : ((s3 68 (((σ 38 j).toInt).toNat)) + (1 : Int32)).toInt = ((s3 68 (((σ 38 j).toInt).toNat)).toInt + 1) := addI rfl rfl (by omega) (by omega)
                                  refine ast hC hK hG hR hS (fun _ => ct_m_far G _ _) rfl (by omega) (by omega) rfl dX10_goes_155 (fun s_484 es_485 H locs hR hS => ?_)
                                  have hA1 : BFI (UM σ hr hq) (xM σ) (yM σ) b5.toInt.toNat (fM s_484) ∧ BFL (UM σ hr hq) (xM σ) (yM σ) (n6 : Int) j (fM s_484) ∧ (s_484 68 (xM σ j)).toInt ≤ (s_484 68 (yM σ j)).toInt + 1 := bf_a1 hln (by omega) hU hi1_70 hi2_70 (by assumption) (by assumption) es_485
                                  have rdx : (s_484 68 (σ 37 j).toInt.toNat).toInt = (s3 68 (σ 38 j).toInt.toNat).toInt + 1 := by rw [es_485, up2_s]; omega
                                  have hbx2 : 0 ≤ (s_484 68 (σ 37 j).toInt.toNat).toInt ∧ (s_484 68 (σ 37 j).toInt.toNat).toInt ≤ 99 := hA1.1.1 _ (by omega)
                                  refine lv_aload_n hC.x hC.b dX10_goes_156 rfl (lv_at hl 0 rfl) ?_
                                  refine rget hC hK hR (ct_model G _ _) rfl uin_X10 38 (by decide) TF_X10_117 rfl dX10_goes_157 ?_
                                  refine lv_aload_n hC.x hC.b dX10_goes_160 rfl (lv_at hl 0 rfl) ?_
                                  refine rget hC hK hR (ct_model G _ _) rfl uin_X10 2 (by decide) TF_X10_16 rfl dX10_goes_161 ?_
                                  refine lv_iload hC.x hC.b dX10_goes_164 (lv_at hl 7 rfl) ?_
                                  refine ald hC hK hR (ct_m_two G _ _) (nI_T j (by omega)) (by omega) (by omega) (Int.toNat_natCast _) dX10_goes_166 ?_
                                  rw [show s_484 38 j = (σ 38 j) from (Eq.trans (show s_484 38 j = s3 38 j from (by rw [es_485]; exact up2_o (by omega))) (show s3 38 j = σ 38 j from congrFun (hi3_70.1 38 (by omega) (by first | omega | (dsimp only; omega) | (intro h; exact h))) j))]
                                  refine ald hC hK hR (ct_m_far G _ _) rfl (by omega) (by omega) rfl dX10_goes_167 ?_
                                  refine lv_aload_n hC.x hC.b dX10_goes_168 rfl (lv_at hl 0 rfl) ?_
                                  refine rget hC hK hR (ct_model G _ _) rfl uin_X10 38 (by decide) TF_X10_117 rfl dX10_goes_169 ?_
                                  refine lv_aload_n hC.x hC.b dX10_goes_172 rfl (lv_at hl 0 rfl) ?_
                                  refine rget hC hK hR (ct_model G _ _) rfl uin_X10 1 (by decide) TF_X10_13 rfl dX10_goes_173 ?_
                                  refine lv_iload hC.x hC.b dX10_goes_176 (lv_at hl 7 rfl) ?_
                                  refine ald hC hK hR (ct_m_one G _ _) (nI_T j (by omega)) (by omega) (by omega) (Int.toNat_natCast _) dX10_goes_178 ?_
                                  rw [show s_484 37 j = (σ 37 j) from (Eq.trans (show s_484 37 j = s3 37 j from (by rw [es_485]; exact up2_o (by omega))) (show s3 37 j = σ 37 j from congrFun (hi3_70.1 37 (by omega) (by first | omega | (dsimp only; omega) | (intro h; exact h))) j))]
                                  refine ald hC hK hR (ct_m_far G _ _) rfl (by omega) (by omega) rfl dX10_goes_179 ?_
                                  rw [show s_484 68 (((σ 37 j).toInt).toNat) = ((s3 68 (((σ 38 j).toInt).toNat)) + (1 : Int32)) from (show s_484 68 (((σ 37 j).toInt).toNat) = ((s3 68 (((σ 38 j).toInt).toNat)) + (1 : Int32)) from (by rw [es_485]; exact up2_s))]
                                  refine lv_iconst (v := 1) hC.x hC.b dX10_goes_180 (by decide) ?_
                                  refine lv_iadd hC.x hC.b dX10_goes_181 ?_
                                  have pr_486 : (((s3 68 (((σ 38 j).toInt).toNat)) + (1 : Int32)) + (1 : Int32)).toInt = (((s3 68 (((σ 38 j).toInt).toNat)) + (1 : Int32)).toInt + 1) := addI rfl rfl (by omega) (by omega)
                                  refine bi_le (tgt := 211) (a := (s_484 68 (((σ 38 j).toInt).toNat)).toInt) (b := (((s3 68 (((σ 38 j).toInt).toNat)) + (1 : Int32)).toInt + 1)) hC.x hC.b rfl pr_486 dX10_goes_182 (by decide) (fun c_487 => ?_) (fun c_487 => ?_)
                                  · skip
                                    have hA2 := bf_a0 hA1 (by show (s_484 68 (σ 38 j).toInt.toNat).toInt ≤ (s_484 68 (σ 37 j).toInt.toNat).toInt + 1; omega)
                                    refine lv_iinc (v := nI (j + 1)) (lv' := [(7, .int (nI (j + 1))), (0, .ref (G.2.1 35)), (1, .int xa), (2, .int ya), (3, .int hr), (4, .int a4), (5, .int b5), (6, .int (nI n6))]) hC.x hC.b dX10_goes_211 hl (k := 7) rfl (nI_succ _).symm (by decide) rfl (fun ls hl => ?_)
                                    refine lv_goto (tgt := 70) hC.x hC.b dX10_goes_214 (by decide) ?_
                                    exact ih_70 (j + 1) s_484 (by omega) (by first | omega | assumption) (by exact hA2.1) (by exact hA2.2) (by rw [es_485]; exact MRel.up (hi3_70) (by omega) (by first | omega | (dsimp only; omega))) _ _ _ hR hS (lv_sub hl [1, 2, 3, 4, 5, 6, 7, 0] rfl)
                                  · skip
                                    refine lv_aload_n hC.x hC.b dX10_goes_185 rfl (lv_at hl 0 rfl) ?_
                                    refine rget hC hK hR (ct_model G _ _) rfl uin_X10 38 (by decide) TF_X10_117 rfl dX10_goes_186 ?_
                                    refine lv_aload_n hC.x hC.b dX10_goes_189 rfl (lv_at hl 0 rfl) ?_
                                    refine rget hC hK hR (ct_model G _ _) rfl uin_X10 2 (by decide) TF_X10_16 rfl dX10_goes_190 ?_
                                    refine lv_iload hC.x hC.b dX10_goes_193 (lv_at hl 7 rfl) ?_
                                    refine ald hC hK hR (ct_m_two G _ _) (nI_T j (by omega)) (by omega) (by omega) (Int.toNat_natCast _) dX10_goes_195 ?_
                                    rw [show s_484 38 j = (σ 38 j) from (Eq.trans (show s_484 38 j = s3 38 j from (by rw [es_485]; exact up2_o (by omega))) (show s3 38 j = σ 38 j from congrFun (hi3_70.1 38 (by omega) (by first | omega | (dsimp only; omega) | (intro h; exact h))) j))]
                                    refine lv_aload_n hC.x hC.b dX10_goes_196 rfl (lv_at hl 0 rfl) ?_
                                    refine rget hC hK hR (ct_model G _ _) rfl uin_X10 38 (by decide) TF_X10_117 rfl dX10_goes_197 ?_
                                    refine lv_aload_n hC.x hC.b dX10_goes_200 rfl (lv_at hl 0 rfl) ?_
                                    refine rget hC hK hR (ct_model G _ _) rfl uin_X10 1 (by decide) TF_X10_13 rfl dX10_goes_201 ?_
                                    refine lv_iload hC.x hC.b dX10_goes_204 (lv_at hl 7 rfl) ?_
                                    refine ald hC hK hR (ct_m_one G _ _) (nI_T j (by omega)) (by omega) (by omega) (Int.toNat_natCast _) dX10_goes_206 ?_
                                    rw [show s_484 37 j = (σ 37 j) from (Eq.trans (show s_484 37 j = s3 37 j from (by rw [es_485]; exact up2_o (by omega))) (show s3 37 j = σ 37 j from congrFun (hi3_70.1 37 (by omega) (by first | omega | (dsimp only; omega) | (intro h; exact h))) j))]
                                    refine ald hC hK hR (ct_m_far G _ _) rfl (by omega) (by omega) rfl dX10_goes_207 ?_
                                    rw [show s_484 68 (((σ 37 j).toInt).toNat) = ((s3 68 (((σ 38 j).toInt).toNat)) + (1 : Int32)) from (show s_484 68 (((σ 37 j).toInt).toNat) = ((s3 68 (((σ 38 j).toInt).toNat)) + (1 : Int32)) from (by rw [es_485]; exact up2_s))]
                                    refine lv_iconst (v := 1) hC.x hC.b dX10_goes_208 (by decide) ?_
                                    refine lv_iadd hC.x hC.b dX10_goes_209 ?_
                                    have pr_488 : (((s3 68 (((σ 38 j).toInt).toNat)) + (1 : Int32)) + (1 : Int32)).toInt = (((s3 68 (((σ 38 j).toInt).toNat)) + (1 : Int32)).toInt + 1) := addI rfl rfl (by omega) (by omega)
                                    refine ast hC hK hG hR hS (fun _ => ct_m_far G _ _) rfl (by omega) (by omega) rfl dX10_goes_210 (fun s_489 es_490 H locs hR hS => ?_)
                                    have hA2 := bf_a2 hln (by omega) hU hA1 (by show (s_484 68 (σ 37 j).toInt.toNat).toInt + 1 < (s_484 68 (σ 38 j).toInt.toNat).toInt; omega) (by show _ = (s_484 68 (σ 37 j).toInt.toNat).toInt + 1; omega) es_490
                                    refine lv_iinc (v := nI (j + 1)) (lv' := [(7, .int (nI (j + 1))), (0, .ref (G.2.1 35)), (1, .int xa), (2, .int ya), (3, .int hr), (4, .int a4), (5, .int b5), (6, .int (nI n6))]) hC.x hC.b dX10_goes_211 hl (k := 7) rfl (nI_succ _).symm (by decide) rfl (fun ls hl => ?_)
                                    refine lv_goto (tgt := 70) hC.x hC.b dX10_goes_214 (by decide) ?_
                                    exact ih_70 (j + 1) s_489 (by omega) (by first | omega | assumption) (by exact hA2.1) (by exact hA2.2) (by rw [es_490]; exact MRel.up ((by rw [es_485]; exact MRel.up (hi3_70) (by omega) (by first | omega | (dsimp only; omega)))) (by omega) (by first | omega | (dsimp only; omega))) _ _ _ hR hS (lv_sub hl [1, 2, 3, 4, 5, 6, 7, 0] rfl)
                              · skip
                                refine lv_goto (tgt := 211) hC.x hC.b dX10_goes_98 (by decide) ?_
                                have rd_491 : (s3 36 j).toInt = (σ 36 j).toInt := congrArg Int32.toInt (show s3 36 j = σ 36 j from congrFun (hi3_70.1 36 (by omega) (by first | omega | (dsimp only; omega) | (intro h; exact h))) j)
                                have hA2 := bf_sk hi1_70 hi2_70 (fun h => by have h1 := h.1; have h2 := h.2.1; have h3 := h.2.2; rw [← toldM_g (q := j) (hr := hr) (hq := hq) hi3_70] at h3; omega)
                                refine lv_iinc (v := nI (j + 1)) (lv' := [(7, .int (nI (j + 1))), (0, .ref (G.2.1 35)), (1, .int xa), (2, .int ya), (3, .int hr), (4, .int a4), (5, .int b5), (6, .int (nI n6))]) hC.x hC.b dX10_goes_211 hl (k := 7) rfl (nI_succ _).symm (by decide) rfl (fun ls hl => ?_)
                                refine lv_goto (tgt := 70) hC.x hC.b dX10_goes_214 (by decide) ?_
                                exact ih_70 (j + 1) s3 (by omega) (by first | omega | assumption) (by exact hA2.1) (by exact hA2.2) hi3_70 _ _ _ hR hS (lv_sub hl [1, 2, 3, 4, 5, 6, 7, 0] rfl)
                            · skip
                              refine bz_eq (tgt := 211) (a := 0) (b := 0) hC.x hC.b rfl rfl dX10_goes_83 (by decide) (fun _ => ?_) (fun c_492 => absurd c_492 (by decide))
                              have rd_493 : (s3 36 j).toInt = (σ 36 j).toInt := congrArg Int32.toInt (show s3 36 j = σ 36 j from congrFun (hi3_70.1 36 (by omega) (by first | omega | (dsimp only; omega) | (intro h; exact h))) j)
                              have hA2 := bf_sk hi1_70 hi2_70 (fun h => by have h1 := h.1; have h2 := h.2.1; have h3 := h.2.2; rw [← toldM_g (q := j) (hr := hr) (hq := hq) hi3_70] at h3; omega)
                              refine lv_iinc (v := nI (j + 1)) (lv' := [(7, .int (nI (j + 1))), (0, .ref (G.2.1 35)), (1, .int xa), (2, .int ya), (3, .int hr), (4, .int a4), (5, .int b5), (6, .int (nI n6))]) hC.x hC.b dX10_goes_211 hl (k := 7) rfl (nI_succ _).symm (by decide) rfl (fun ls hl => ?_)
                              refine lv_goto (tgt := 70) hC.x hC.b dX10_goes_214 (by decide) ?_
                              exact ih_70 (j + 1) s3 (by omega) (by first | omega | assumption) (by exact hA2.1) (by exact hA2.2) hi3_70 _ _ _ hR hS (lv_sub hl [1, 2, 3, 4, 5, 6, 7, 0] rfl)
                      exact L_70 _ 0 s2 (Nat.lt_succ_self _) (by first | omega | assumption) (by exact hi1_60) (by exact hi2_60) hi3_60 _ _ _ hR hS (lv_sub hl [1, 2, 3, 4, 5, 6, 7, 0] rfl)
                exact L_60 _ 0 s_374 (Nat.lt_succ_self _) (by first | omega | assumption) (by exact (bf_st (σ := σ) (hr := hr) (hq := hq) (b := b5.toInt.toNat) (s1 := s1) (by omega) (fun k hk => hi1_27 k (by omega)) es_375 hln).1) (by exact (bf_st (σ := σ) (hr := hr) (hq := hq) (b := b5.toInt.toNat) (s1 := s1) (by omega) (fun k hk => hi1_27 k (by omega)) es_375 hln).2) (by rw [es_375]; exact MRel.up (hi2_27) (by omega) (by first | omega | (dsimp only; omega))) _ _ _ hR hS (lv_sub hl [1, 2, 3, 4, 5, 6, 0] rfl)
              · skip
                refine lv_aload_n hC.x hC.b dX10_goes_34 rfl (lv_at hl 0 rfl) ?_
                refine rget hC hK hR (ct_model G _ _) rfl uin_X10 38 (by decide) TF_X10_117 rfl dX10_goes_35 ?_
                refine lv_iload hC.x hC.b dX10_goes_38 (lv_at hl 6 rfl) ?_
                refine lv_bipush (v := 99) hC.x hC.b dX10_goes_40 (by decide) ?_
                refine ast hC hK hG hR hS (fun _ => ct_m_far G _ _) (nI_T n (by omega)) (by omega) (by omega) (Int.toNat_natCast _) dX10_goes_42 (fun s_494 es_495 H locs hR hS => ?_)
                refine lv_iinc (v := nI (n + 1)) (lv' := [(6, .int (nI (n + 1))), (0, .ref (G.2.1 35)), (1, .int xa), (2, .int ya), (3, .int hr), (4, .int a4), (5, .int b5)]) hC.x hC.b dX10_goes_43 hl (k := 6) rfl (nI_succ _).symm (by decide) rfl (fun ls hl => ?_)
                refine lv_goto (tgt := 27) hC.x hC.b dX10_goes_46 (by decide) ?_
                exact ih_27 (n + 1) s_494 (by omega) (by first | omega | assumption) (by subst es_495; intro k hk; by_cases e9 : k = n; (subst e9; rw [up2_s]; decide); (rw [up2_n e9]; exact hi1_27 k (by omega))) (by rw [es_495]; exact MRel.up (hi2_27) (by omega) (by first | omega | (dsimp only; omega))) _ _ _ hR hS (lv_sub hl [1, 2, 3, 4, 5, 6, 0] rfl)
          exact L_27 _ 0 σ (Nat.lt_succ_self _) (by first | omega | assumption) (by intro k hk; omega) MRel.rf _ _ _ hR hS (lv_sub hl [1, 2, 3, 4, 5, 6, 0] rfl)
      exact L_24 _ xa ya (Nat.lt_succ_self _) (by first | omega | assumption) (by first | omega | assumption) _ _ _ hR hS (lv_sub hl [2, 3, 4, 5, 1, 0] rfl)
