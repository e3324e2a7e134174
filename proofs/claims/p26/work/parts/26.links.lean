abbrev po_X10_direct (σ : SI) (τ : SL) (xa : Int32) (ya : Int32) (hr : Int32) (hq : Nat) : Int32 → SI × SL → Prop := fun v u => u = (σ, τ) ∧ (True)
set_option maxRecDepth 100000 in
set_option maxHeartbeats 4000000 in
theorem c_X10_direct (l : Launch) {G : Gx} {A : Nat → Prop} (hG : GOk G A) (σ : SI) (τ : SL) (xa : Int32) (ya : Int32) (hr : Int32) (hq : Nat) (hp_hq : hr.toInt.toNat = hq) (hnw : 0 ≤ (σ 35 29).toInt ∧ (σ 35 29).toInt ≤ 200) : MI l G A 2 yX10_direct cX10_direct 5 (some .int) [.ref (G.2.1 35), .int xa, .int ya, .int hr] (σ, τ) (po_X10_direct σ τ xa ya hr hq) := by
  refine met_of (own := RX10) (by decide +kernel) rfl [(0, .ref (G.2.1 35)), (1, .int xa), (2, .int ya), (3, .int hr)] rfl (Nat.le_of_ble_eq_true rfl) ?_
  intro p e s m args below meth c ls hC hK hR hl
  have hS : va_S A s.heap s.heap [] := va_S.rf
  refine lv_iconst (v := 0) hC.x hC.b dX10_direct_0 (by decide) ?_
  refine lv_istore (lv' := [(4, .int (0 : Int32)), (0, .ref (G.2.1 35)), (1, .int xa), (2, .int ya), (3, .int hr)]) hC.x hC.b dX10_direct_1 hl (by decide) rfl (fun ls hl => ?_)
  have L_3 : ∀ (F : Nat) (n : Nat), (24 - n) < F → (n ≤ 24) → ∀ (H : Heap) (locs : List Loc) (ls : Array Slot), RepH G σ τ H → va_S A s.heap H locs → lv_has ls 5 [(0, .ref (G.2.1 35)), (1, .int xa), (2, .int ya), (3, .int hr), (4, .int (nI n))] → W p l e (rmD 2) s m args below meth c H locs 0 0 (MQ below (va_Qi (po_X10_direct σ τ xa ya hr hq) (BU G) A) args s 0 0 A) (F0 m 3 ls []) := by
    intro F
    induction F with
    | zero => intro n hm; exact absurd hm (Nat.not_lt_zero _)
    | succ F ih_3 =>
      intro n hm_3 hi0_3 H locs ls hR hS hl
      have hnI := nI_T n (by omega)
      refine lv_iload hC.x hC.b dX10_direct_3 (lv_at hl 4 rfl) ?_
      refine lv_bipush (v := 24) hC.x hC.b dX10_direct_5 (by decide) ?_
      refine bi_ge (tgt := 81) (a := (n : Int)) (b := 24) hC.x hC.b (nI_T n (by omega)) rfl dX10_direct_7 (by decide) (fun c_1 => ?_) (fun c_1 => ?_)
      · skip
        refine lv_ldc hC.x hC.b hC.ow (hC.ts _ TK_X10_151) dX10_direct_81 ?_
        exact reti hC hK hR hS ⟨rfl, (trivial)⟩ dX10_direct_83
      · skip
        refine lv_aload_n hC.x hC.b dX10_direct_10 rfl (lv_at hl 0 rfl) ?_
        refine lv_iload hC.x hC.b dX10_direct_11 (lv_at hl 4 rfl) ?_
        have av_2 : (nI n).toInt = (n : Int) := (nI_T n (by omega))
        refine goip (runV (As := [.int (nI n)]) (rest := []) hC hK hR hl.1 (c_X10_isLink l hG σ τ (nI n) n (by first | rfl | (rw [show (nI n).toInt = (n : Int) from (nI_T n (by omega))]; done) | (rw [show (nI n).toInt = (n : Int) from (nI_T n (by omega))]; exact (Int.toNat_natCast _))) ) (call_b hC.ts TC_X10_isLink TN_X10 TM_X10_148 hd_X10_isLink ⟨Nat.le_of_ble_eq_true rfl, Nat.le_of_ble_eq_true rfl⟩) TI_X10_isLink TS_X10_isLink (ct_model G _ _) rfl rfl rfl (Nat.le_of_ble_eq_true rfl) dX10_direct_13 ⟨Nat.le_of_ble_eq_true rfl, Nat.le_of_ble_eq_true rfl⟩) hS (fun v_3 H locs w_4 hR hS => ?_)
        rcases w_4 with ⟨rfl, f_5, f_6⟩ | ⟨rfl, f_7⟩
        · skip
          refine bz_eq (tgt := 75) (a := 1) (b := 0) hC.x hC.b rfl rfl dX10_direct_16 (by decide) (fun c_8 => absurd c_8 (by decide)) (fun _ => ?_)
          refine lv_aload_n hC.x hC.b dX10_direct_19 rfl (lv_at hl 0 rfl) ?_
          refine lv_iload hC.x hC.b dX10_direct_20 (lv_at hl 4 rfl) ?_
          refine lv_iload_n hC.x hC.b dX10_direct_22 rfl (lv_at hl 1 rfl) ?_
          have av_9 : (nI n).toInt = (n : Int) := (nI_T n (by omega))
          refine goip (runV (As := [.int (nI n), .int xa]) (rest := []) hC hK hR hl.1 (c_X10_other l hG σ τ (nI n) n (by first | rfl | (rw [show (nI n).toInt = (n : Int) from (nI_T n (by omega))]; done) | (rw [show (nI n).toInt = (n : Int) from (nI_T n (by omega))]; exact (Int.toNat_natCast _))) xa (by omega)) (call_b hC.ts TC_X10_other TN_X10 TM_X10_161 hd_X10_other ⟨Nat.le_of_ble_eq_true rfl, Nat.le_of_ble_eq_true rfl⟩) TI_X10_other TS_X10_other (ct_model G _ _) rfl rfl rfl (Nat.le_of_ble_eq_true rfl) dX10_direct_23 ⟨Nat.le_of_ble_eq_true rfl, Nat.le_of_ble_eq_true rfl⟩) hS (fun v_10 H locs w_11 hR hS => ?_)
          subst w_11
          refine lv_iload_n hC.x hC.b dX10_direct_26 rfl (lv_at hl 2 rfl) ?_
          refine bi_ne (tgt := 75) (a := (otherM σ n xa).toInt) (b := ya.toInt) hC.x hC.b rfl rfl dX10_direct_27 (by decide) (fun c_12 => ?_) (fun c_12 => ?_)
          · skip
            refine lv_iinc (v := nI (n + 1)) (lv' := [(4, .int (nI (n + 1))), (0, .ref (G.2.1 35)), (1, .int xa), (2, .int ya), (3, .int hr)]) hC.x hC.b dX10_direct_75 hl (k := 4) rfl (nI_succ _).symm (by decide) rfl (fun ls hl => ?_)
            refine lv_goto (tgt := 3) hC.x hC.b dX10_direct_78 (by decide) ?_
            exact ih_3 (n + 1) (by omega) (by first | omega | assumption) _ _ _ hR hS (lv_sub hl [1, 2, 3, 4, 0] rfl)
          · skip
            refine lv_aload_n hC.x hC.b dX10_direct_30 rfl (lv_at hl 0 rfl) ?_
            refine lv_iload hC.x hC.b dX10_direct_31 (lv_at hl 4 rfl) ?_
            refine lv_iload_n hC.x hC.b dX10_direct_33 rfl (lv_at hl 3 rfl) ?_
            have av_13 : (nI n).toInt = (n : Int) := (nI_T n (by omega))
            refine goip (runV (As := [.int (nI n), .int hr]) (rest := []) hC hK hR hl.1 (c_X10_told l hG σ τ (nI n) n (by first | rfl | (rw [show (nI n).toInt = (n : Int) from (nI_T n (by omega))]; done) | (rw [show (nI n).toInt = (n : Int) from (nI_T n (by omega))]; exact (Int.toNat_natCast _))) hr hq (by first | rfl | (rw [show hr.toInt = hr.toInt from rfl]; done) | (rw [show hr.toInt = hr.toInt from rfl]; exact hp_hq)) (by first | assumption | omega) (by omega)) (call_b hC.ts TC_X10_told TN_X10 TM_X10_152 hd_X10_told ⟨Nat.le_of_ble_eq_true rfl, Nat.le_of_ble_eq_true rfl⟩) TI_X10_told TS_X10_told (ct_model G _ _) rfl rfl rfl (Nat.le_of_ble_eq_true rfl) dX10_direct_34 ⟨Nat.le_of_ble_eq_true rfl, Nat.le_of_ble_eq_true rfl⟩) hS (fun v_14 H locs w_15 hR hS => ?_)
            subst w_15
            refine lv_ldc hC.x hC.b hC.ow (hC.ts _ TK_X10_151) dX10_direct_37 ?_
            refine bi_ne (tgt := 45) (a := (toldM σ n hr hq).toInt) (b := 1000000) hC.x hC.b rfl rfl dX10_direct_39 (by decide) (fun c_16 => ?_) (fun c_16 => ?_)
            · skip
              refine lv_aload_n hC.x hC.b dX10_direct_45 rfl (lv_at hl 0 rfl) ?_
              refine rget hC hK hR (ct_model G _ _) rfl uin_X10 1 (by decide) TF_X10_13 rfl dX10_direct_46 ?_
              refine lv_iload hC.x hC.b dX10_direct_49 (lv_at hl 4 rfl) ?_
              refine ald hC hK hR (ct_m_one G _ _) (nI_T n (by omega)) (by omega) (by omega) (Int.toNat_natCast _) dX10_direct_51 ?_
              refine lv_iload_n hC.x hC.b dX10_direct_52 rfl (lv_at hl 1 rfl) ?_
              refine bi_ne (tgt := 66) (a := (σ 37 n).toInt) (b := xa.toInt) hC.x hC.b rfl rfl dX10_direct_53 (by decide) (fun c_17 => ?_) (fun c_17 => ?_)
              · skip
                refine lv_aload_n hC.x hC.b dX10_direct_66 rfl (lv_at hl 0 rfl) ?_
                refine lv_iload hC.x hC.b dX10_direct_67 (lv_at hl 4 rfl) ?_
                refine lv_iload_n hC.x hC.b dX10_direct_69 rfl (lv_at hl 3 rfl) ?_
                have av_18 : (nI n).toInt = (n : Int) := (nI_T n (by omega))
                refine goip (runV (As := [.int (nI n), .int hr]) (rest := []) hC hK hR hl.1 (c_X10_told l hG σ τ (nI n) n (by first | rfl | (rw [show (nI n).toInt = (n : Int) from (nI_T n (by omega))]; done) | (rw [show (nI n).toInt = (n : Int) from (nI_T n (by omega))]; exact (Int.toNat_natCast _))) hr hq (by first | rfl | (rw [show hr.toInt = hr.toInt from rfl]; done) | (rw [show hr.toInt = hr.toInt from rfl]; exact hp_hq)) (by first | assumption | omega) (by omega)) (call_b hC.ts TC_X10_told TN_X10 TM_X10_152 hd_X10_told ⟨Nat.le_of_ble_eq_true rfl, Nat.le_of_ble_eq_true rfl⟩) TI_X10_told TS_X10_told (ct_model G _ _) rfl rfl rfl (Nat.le_of_ble_eq_true rfl) dX10_direct_70 ⟨Nat.le_of_ble_eq_true rfl, Nat.le_of_ble_eq_true rfl⟩) hS (fun v_19 H locs w_20 hR hS => ?_)
                subst w_20
                refine lv_ineg hC.x hC.b dX10_direct_73 ?_
                exact reti hC hK hR hS ⟨rfl, (trivial)⟩ dX10_direct_74
              · skip
                refine lv_aload_n hC.x hC.b dX10_direct_56 rfl (lv_at hl 0 rfl) ?_
                refine lv_iload hC.x hC.b dX10_direct_57 (lv_at hl 4 rfl) ?_
                refine lv_iload_n hC.x hC.b dX10_direct_59 rfl (lv_at hl 3 rfl) ?_
                have av_21 : (nI n).toInt = (n : Int) := (nI_T n (by omega))
                refine goip (runV (As := [.int (nI n), .int hr]) (rest := []) hC hK hR hl.1 (c_X10_told l hG σ τ (nI n) n (by first | rfl | (rw [show (nI n).toInt = (n : Int) from (nI_T n (by omega))]; done) | (rw [show (nI n).toInt = (n : Int) from (nI_T n (by omega))]; exact (Int.toNat_natCast _))) hr hq (by first | rfl | (rw [show hr.toInt = hr.toInt from rfl]; done) | (rw [show hr.toInt = hr.toInt from rfl]; exact hp_hq)) (by first | assumption | omega) (by omega)) (call_b hC.ts TC_X10_told TN_X10 TM_X10_152 hd_X10_told ⟨Nat.le_of_ble_eq_true rfl, Nat.le_of_ble_eq_true rfl⟩) TI_X10_told TS_X10_told (ct_model G _ _) rfl rfl rfl (Nat.le_of_ble_eq_true rfl) dX10_direct_60 ⟨Nat.le_of_ble_eq_true rfl, Nat.le_of_ble_eq_true rfl⟩) hS (fun v_22 H locs w_23 hR hS => ?_)
                subst w_23
                refine lv_goto (tgt := 74) hC.x hC.b dX10_direct_63 (by decide) ?_
                exact reti hC hK hR hS ⟨rfl, (trivial)⟩ dX10_direct_74
            · skip
              refine lv_goto (tgt := 75) hC.x hC.b dX10_direct_42 (by decide) ?_
              refine lv_iinc (v := nI (n + 1)) (lv' := [(4, .int (nI (n + 1))), (0, .ref (G.2.1 35)), (1, .int xa), (2, .int ya), (3, .int hr)]) hC.x hC.b dX10_direct_75 hl (k := 4) rfl (nI_succ _).symm (by decide) rfl (fun ls hl => ?_)
              refine lv_goto (tgt := 3) hC.x hC.b dX10_direct_78 (by decide) ?_
              exact ih_3 (n + 1) (by omega) (by first | omega | assumption) _ _ _ hR hS (lv_sub hl [1, 2, 3, 4, 0] rfl)
        · skip
          refine bz_eq (tgt := 75) (a := 0) (b := 0) hC.x hC.b rfl rfl dX10_direct_16 (by decide) (fun _ => ?_) (fun c_24 => absurd c_24 (by decide))
          refine lv_iinc (v := nI (n + 1)) (lv' := [(4, .int (nI (n + 1))), (0, .ref (G.2.1 35)), (1, .int xa), (2, .int ya), (3, .int hr)]) hC.x hC.b dX10_direct_75 hl (k := 4) rfl (nI_succ _).symm (by decide) rfl (fun ls hl => ?_)
          refine lv_goto (tgt := 3) hC.x hC.b dX10_direct_78 (by decide) ?_
          exact ih_3 (n + 1) (by omega) (by first | omega | assumption) _ _ _ hR hS (lv_sub hl [1, 2, 3, 4, 0] rfl)
  exact L_3 _ 0 (Nat.lt_succ_self _) (by first | omega | assumption) _ _ _ hR hS (lv_sub hl [1, 2, 3, 4, 0] rfl)

abbrev po_X10_ring (σ : SI) (τ : SL) (xa : Int32) (xq : Nat) (ya : Int32) (yq : Nat) (za : Int32) (zq : Nat) (hr : Int32) (hq : Nat) : Int32 → SI × SL → Prop := fun v u => u = (σ, τ) ∧ (True)
set_option maxRecDepth 100000 in
set_option maxHeartbeats 4000000 in
theorem c_X10_ring (l : Launch) {G : Gx} {A : Nat → Prop} (hG : GOk G A) (σ : SI) (τ : SL) (xa : Int32) (xq : Nat) (hp_xq : xa.toInt.toNat = xq) (ya : Int32) (yq : Nat) (hp_yq : ya.toInt.toNat = yq) (za : Int32) (zq : Nat) (hp_zq : za.toInt.toNat = zq) (hr : Int32) (hq : Nat) (hp_hq : hr.toInt.toNat = hq) (hnw : 0 ≤ (σ 35 29).toInt ∧ (σ 35 29).toInt ≤ 200) : MI l G A 3 yX10_ring cX10_ring 8 (some .int) [.ref (G.2.1 35), .int xa, .int ya, .int za, .int hr] (σ, τ) (po_X10_ring σ τ xa xq ya yq za zq hr hq) := by
  refine met_of (own := RX10) (by decide +kernel) rfl [(0, .ref (G.2.1 35)), (1, .int xa), (2, .int ya), (3, .int za), (4, .int hr)] rfl (Nat.le_of_ble_eq_true rfl) ?_
  intro p e s m args below meth c ls hC hK hR hl
  have hS : va_S A s.heap s.heap [] := va_S.rf
  refine lv_aload_n hC.x hC.b dX10_ring_0 rfl (lv_at hl 0 rfl) ?_
  refine lv_iload_n hC.x hC.b dX10_ring_1 rfl (lv_at hl 1 rfl) ?_
  refine goip (runV (As := [.int xa]) (rest := []) hC hK hR hl.1 (c_X10_isClock l hG σ τ xa xq (by first | rfl | (rw [show xa.toInt = xa.toInt from rfl]; done) | (rw [show xa.toInt = xa.toInt from rfl]; exact hp_xq)) ) (call_b hC.ts TC_X10_isClock TN_X10 TM_X10_133 hd_X10_isClock ⟨Nat.le_of_ble_eq_true rfl, Nat.le_of_ble_eq_true rfl⟩) TI_X10_isClock TS_X10_isClock (ct_model G _ _) rfl rfl rfl (Nat.le_of_ble_eq_true rfl) dX10_ring_2 ⟨Nat.le_of_ble_eq_true rfl, Nat.le_of_ble_eq_true rfl⟩) hS (fun v_1 H locs w_2 hR hS => ?_)
  rcases w_2 with ⟨rfl, f_3, f_4⟩ | ⟨rfl, f_5⟩
  · skip
    refine bz_eq (tgt := 52) (a := 1) (b := 0) hC.x hC.b rfl rfl dX10_ring_5 (by decide) (fun c_6 => absurd c_6 (by decide)) (fun _ => ?_)
    refine lv_aload_n hC.x hC.b dX10_ring_8 rfl (lv_at hl 0 rfl) ?_
    refine lv_iload_n hC.x hC.b dX10_ring_9 rfl (lv_at hl 2 rfl) ?_
    refine goip (runV (As := [.int ya]) (rest := []) hC hK hR hl.1 (c_X10_isClock l hG σ τ ya yq (by first | rfl | (rw [show ya.toInt = ya.toInt from rfl]; done) | (rw [show ya.toInt = ya.toInt from rfl]; exact hp_yq)) ) (call_b hC.ts TC_X10_isClock TN_X10 TM_X10_133 hd_X10_isClock ⟨Nat.le_of_ble_eq_true rfl, Nat.le_of_ble_eq_true rfl⟩) TI_X10_isClock TS_X10_isClock (ct_model G _ _) rfl rfl rfl (Nat.le_of_ble_eq_true rfl) dX10_ring_10 ⟨Nat.le_of_ble_eq_true rfl, Nat.le_of_ble_eq_true rfl⟩) hS (fun v_7 H locs w_8 hR hS => ?_)
    rcases w_8 with ⟨rfl, f_9, f_10⟩ | ⟨rfl, f_11⟩
    · skip
      refine bz_eq (tgt := 52) (a := 1) (b := 0) hC.x hC.b rfl rfl dX10_ring_13 (by decide) (fun c_12 => absurd c_12 (by decide)) (fun _ => ?_)
      refine lv_aload_n hC.x hC.b dX10_ring_16 rfl (lv_at hl 0 rfl) ?_
      refine lv_iload_n hC.x hC.b dX10_ring_17 rfl (lv_at hl 3 rfl) ?_
      refine goip (runV (As := [.int za]) (rest := []) hC hK hR hl.1 (c_X10_isClock l hG σ τ za zq (by first | rfl | (rw [show za.toInt = za.toInt from rfl]; done) | (rw [show za.toInt = za.toInt from rfl]; exact hp_zq)) ) (call_b hC.ts TC_X10_isClock TN_X10 TM_X10_133 hd_X10_isClock ⟨Nat.le_of_ble_eq_true rfl, Nat.le_of_ble_eq_true rfl⟩) TI_X10_isClock TS_X10_isClock (ct_model G _ _) rfl rfl rfl (Nat.le_of_ble_eq_true rfl) dX10_ring_18 ⟨Nat.le_of_ble_eq_true rfl, Nat.le_of_ble_eq_true rfl⟩) hS (fun v_13 H locs w_14 hR hS => ?_)
      rcases w_14 with ⟨rfl, f_15, f_16⟩ | ⟨rfl, f_17⟩
      · skip
        refine bz_eq (tgt := 52) (a := 1) (b := 0) hC.x hC.b rfl rfl dX10_ring_21 (by decide) (fun c_18 => absurd c_18 (by decide)) (fun _ => ?_)
        refine lv_iload_n hC.x hC.b dX10_ring_24 rfl (lv_at hl 1 rfl) ?_
        refine lv_iload_n hC.x hC.b dX10_ring_25 rfl (lv_at hl 2 rfl) ?_
        refine bi_eq (tgt := 52) (a := xa.toInt) (b := ya.toInt) hC.x hC.b rfl rfl dX10_ring_26 (by decide) (fun c_19 => ?_) (fun c_19 => ?_)
        · skip
          refine lv_ldc hC.x hC.b hC.ow (hC.ts _ TK_X10_151) dX10_ring_52 ?_
          exact reti hC hK hR hS ⟨rfl, (trivial)⟩ dX10_ring_54
        · skip
          refine lv_iload_n hC.x hC.b dX10_ring_29 rfl (lv_at hl 2 rfl) ?_
          refine lv_iload_n hC.x hC.b dX10_ring_30 rfl (lv_at hl 3 rfl) ?_
          refine bi_eq (tgt := 52) (a := ya.toInt) (b := za.toInt) hC.x hC.b rfl rfl dX10_ring_31 (by decide) (fun c_20 => ?_) (fun c_20 => ?_)
          · skip
            refine lv_ldc hC.x hC.b hC.ow (hC.ts _ TK_X10_151) dX10_ring_52 ?_
            exact reti hC hK hR hS ⟨rfl, (trivial)⟩ dX10_ring_54
          · skip
            refine lv_iload_n hC.x hC.b dX10_ring_34 rfl (lv_at hl 1 rfl) ?_
            refine lv_iload_n hC.x hC.b dX10_ring_35 rfl (lv_at hl 3 rfl) ?_
            refine bi_eq (tgt := 52) (a := xa.toInt) (b := za.toInt) hC.x hC.b rfl rfl dX10_ring_36 (by decide) (fun c_21 => ?_) (fun c_21 => ?_)
            · skip
              refine lv_ldc hC.x hC.b hC.ow (hC.ts _ TK_X10_151) dX10_ring_52 ?_
              exact reti hC hK hR hS ⟨rfl, (trivial)⟩ dX10_ring_54
            · skip
              refine lv_iload hC.x hC.b dX10_ring_39 (lv_at hl 4 rfl) ?_
              refine lv_iconst (v := 0) hC.x hC.b dX10_ring_41 (by decide) ?_
              refine lv_aload_n hC.x hC.b dX10_ring_42 rfl (lv_at hl 0 rfl) ?_
              refine rget hC hK hR (ct_model G _ _) rfl uin_X10 29 (by decide) TF_X10_137 rfl dX10_ring_43 ?_
              have av_22 : (0 : Int32).toInt = 0 := by decide
              refine goip (runS (As := [.int hr, .int (0 : Int32), .int (σ 35 29)]) (rest := []) hC hK hR hl.1 (c_X10_isIn l hG σ τ hr (0 : Int32) (σ 35 29) ) (call_b hC.ts TC_X10_isIn TN_X10 TM_X10_129 hd_X10_isIn ⟨Nat.le_of_ble_eq_true rfl, Nat.le_of_ble_eq_true rfl⟩) TT_X10_isIn rfl rfl (Nat.le_of_ble_eq_true rfl) dX10_ring_46 ⟨Nat.le_of_ble_eq_true rfl, Nat.le_of_ble_eq_true rfl⟩) hS (fun v_23 H locs w_24 hR hS => ?_)
              rcases w_24 with ⟨rfl, f_25, f_26⟩ | ⟨rfl, f_27⟩
              · skip
                refine bz_ne (tgt := 55) (a := 1) (b := 0) hC.x hC.b rfl rfl dX10_ring_49 (by decide) (fun _ => ?_) (fun c_28 => absurd c_28 (by decide))
                refine lv_aload_n hC.x hC.b dX10_ring_55 rfl (lv_at hl 0 rfl) ?_
                refine lv_iload_n hC.x hC.b dX10_ring_56 rfl (lv_at hl 1 rfl) ?_
                refine lv_iload_n hC.x hC.b dX10_ring_57 rfl (lv_at hl 2 rfl) ?_
                refine lv_iload hC.x hC.b dX10_ring_58 (lv_at hl 4 rfl) ?_
                refine goip (runV (As := [.int xa, .int ya, .int hr]) (rest := []) hC hK hR hl.1 (c_X10_direct l hG σ τ xa ya hr hq (by first | rfl | (rw [show hr.toInt = hr.toInt from rfl]; done) | (rw [show hr.toInt = hr.toInt from rfl]; exact hp_hq)) (by first | assumption | omega)) (call_b hC.ts TC_X10_direct TN_X10 TM_X10_257 hd_X10_direct ⟨Nat.le_of_ble_eq_true rfl, Nat.le_of_ble_eq_true rfl⟩) TI_X10_direct TS_X10_direct (ct_model G _ _) rfl rfl rfl (Nat.le_of_ble_eq_true rfl) dX10_ring_60 ⟨Nat.le_of_ble_eq_true rfl, Nat.le_of_ble_eq_true rfl⟩) hS (fun v_29 H locs w_30 hR hS => ?_)
                refine lv_istore (lv' := [(5, .int v_29), (0, .ref (G.2.1 35)), (1, .int xa), (2, .int ya), (3, .int za), (4, .int hr)]) hC.x hC.b dX10_ring_63 hl (by decide) rfl (fun ls hl => ?_)
                refine lv_aload_n hC.x hC.b dX10_ring_65 rfl (lv_at hl 1 rfl) ?_
                refine lv_iload_n hC.x hC.b dX10_ring_66 rfl (lv_at hl 3 rfl) ?_
                refine lv_iload_n hC.x hC.b dX10_ring_67 rfl (lv_at hl 4 rfl) ?_
                refine lv_iload hC.x hC.b dX10_ring_68 (lv_at hl 5 rfl) ?_
                refine goip (runV (As := [.int ya, .int za, .int hr]) (rest := []) hC hK hR hl.1 (c_X10_direct l hG σ τ ya za hr hq (by first | rfl | (rw [show hr.toInt = hr.toInt from rfl]; done) | (rw [show hr.toInt = hr.toInt from rfl]; exact hp_hq)) (by first | assumption | omega)) (call_b hC.ts TC_X10_direct TN_X10 TM_X10_257 hd_X10_direct ⟨Nat.le_of_ble_eq_true rfl, Nat.le_of_ble_eq_true rfl⟩) TI_X10_direct TS_X10_direct (ct_model G _ _) rfl rfl rfl (Nat.le_of_ble_eq_true rfl) dX10_ring_70 ⟨Nat.le_of_ble_eq_true rfl, Nat.le_of_ble_eq_true rfl⟩) hS (fun v_31 H locs w_32 hR hS => ?_)
                refine lv_istore (lv' := [(6, .int v_31), (5, .int v_29), (0, .ref (G.2.1 35)), (1, .int xa), (2, .int ya), (3, .int za), (4, .int hr)]) hC.x hC.b dX10_ring_73 hl (by decide) rfl (fun ls hl => ?_)
                refine lv_aload_n hC.x hC.b dX10_ring_75 rfl (lv_at hl 2 rfl) ?_
                refine lv_iload_n hC.x hC.b dX10_ring_76 rfl (lv_at hl 5 rfl) ?_
                refine lv_iload_n hC.x hC.b dX10_ring_77 rfl (lv_at hl 3 rfl) ?_
                refine lv_iload hC.x hC.b dX10_ring_78 (lv_at hl 6 rfl) ?_
                refine goip (runV (As := [.int za, .int xa, .int hr]) (rest := []) hC hK hR hl.1 (c_X10_direct l hG σ τ za xa hr hq (by first | rfl | (rw [show hr.toInt = hr.toInt from rfl]; done) | (rw [show hr.toInt = hr.toInt from rfl]; exact hp_hq)) (by first | assumption | omega)) (call_b hC.ts TC_X10_direct TN_X10 TM_X10_257 hd_X10_direct ⟨Nat.le_of_ble_eq_true rfl, Nat.le_of_ble_eq_true rfl⟩) TI_X10_direct TS_X10_direct (ct_model G _ _) rfl rfl rfl (Nat.le_of_ble_eq_true rfl) dX10_ring_80 ⟨Nat.le_of_ble_eq_true rfl, Nat.le_of_ble_eq_true rfl⟩) hS (fun v_33 H locs w_34 hR hS => ?_)
                refine lv_istore (lv' := [(7, .int v_33), (6, .int v_31), (5, .int v_29), (0, .ref (G.2.1 35)), (1, .int xa), (2, .int ya), (3, .int za), (4, .int hr)]) hC.x hC.b dX10_ring_83 hl (by decide) rfl (fun ls hl => ?_)
                refine lv_iload hC.x hC.b dX10_ring_85 (lv_at hl 2 rfl) ?_
                refine lv_ldc hC.x hC.b hC.ow (hC.ts _ TK_X10_151) dX10_ring_87 ?_
                refine bi_eq (tgt := 106) (a := v_29.toInt) (b := 1000000) hC.x hC.b rfl rfl dX10_ring_89 (by decide) (fun c_35 => ?_) (fun c_35 => ?_)
                · skip
                  refine lv_ldc hC.x hC.b hC.ow (hC.ts _ TK_X10_151) dX10_ring_106 ?_
                  refine lv_goto (tgt := 119) hC.x hC.b dX10_ring_108 (by decide) ?_
                  exact reti hC hK hR hS ⟨rfl, (trivial)⟩ dX10_ring_119
                · skip
                  refine lv_iload hC.x hC.b dX10_ring_92 (lv_at hl 1 rfl) ?_
                  refine lv_ldc hC.x hC.b hC.ow (hC.ts _ TK_X10_151) dX10_ring_94 ?_
                  refine bi_eq (tgt := 106) (a := v_31.toInt) (b := 1000000) hC.x hC.b rfl rfl dX10_ring_96 (by decide) (fun c_36 => ?_) (fun c_36 => ?_)
                  · skip
                    refine lv_ldc hC.x hC.b hC.ow (hC.ts _ TK_X10_151) dX10_ring_106 ?_
                    refine lv_goto (tgt := 119) hC.x hC.b dX10_ring_108 (by decide) ?_
                    exact reti hC hK hR hS ⟨rfl, (trivial)⟩ dX10_ring_119
                  · skip
                    refine lv_iload hC.x hC.b dX10_ring_99 (lv_at hl 0 rfl) ?_
                    refine lv_ldc hC.x hC.b hC.ow (hC.ts _ TK_X10_151) dX10_ring_101 ?_
                    refine bi_ne (tgt := 111) (a := v_33.toInt) (b := 1000000) hC.x hC.b rfl rfl dX10_ring_103 (by decide) (fun c_37 => ?_) (fun c_37 => ?_)
                    · skip
                      refine lv_iload hC.x hC.b dX10_ring_111 (lv_at hl 2 rfl) ?_
                      refine lv_iload hC.x hC.b dX10_ring_113 (lv_at hl 1 rfl) ?_
                      refine lv_iadd hC.x hC.b dX10_ring_115 ?_
                      refine lv_iload hC.x hC.b dX10_ring_116 (lv_at hl 0 rfl) ?_
                      refine lv_iadd hC.x hC.b dX10_ring_118 ?_
                      exact reti hC hK hR hS ⟨rfl, (trivial)⟩ dX10_ring_119
                    · skip
                      refine lv_ldc hC.x hC.b hC.ow (hC.ts _ TK_X10_151) dX10_ring_106 ?_
                      refine lv_goto (tgt := 119) hC.x hC.b dX10_ring_108 (by decide) ?_
                      exact reti hC hK hR hS ⟨rfl, (trivial)⟩ dX10_ring_119
              · skip
                refine bz_ne (tgt := 55) (a := 0) (b := 0) hC.x hC.b rfl rfl dX10_ring_49 (by decide) (fun c_38 => absurd c_38 (by decide)) (fun _ => ?_)
                refine lv_ldc hC.x hC.b hC.ow (hC.ts _ TK_X10_151) dX10_ring_52 ?_
                exact reti hC hK hR hS ⟨rfl, (trivial)⟩ dX10_ring_54
      · skip
        refine bz_eq (tgt := 52) (a := 0) (b := 0) hC.x hC.b rfl rfl dX10_ring_21 (by decide) (fun _ => ?_) (fun c_39 => absurd c_39 (by decide))
        refine lv_ldc hC.x hC.b hC.ow (hC.ts _ TK_X10_151) dX10_ring_52 ?_
        exact reti hC hK hR hS ⟨rfl, (trivial)⟩ dX10_ring_54
    · skip
      refine bz_eq (tgt := 52) (a := 0) (b := 0) hC.x hC.b rfl rfl dX10_ring_13 (by decide) (fun _ => ?_) (fun c_40 => absurd c_40 (by decide))
      refine lv_ldc hC.x hC.b hC.ow (hC.ts _ TK_X10_151) dX10_ring_52 ?_
      exact reti hC hK hR hS ⟨rfl, (trivial)⟩ dX10_ring_54
  · skip
    refine bz_eq (tgt := 52) (a := 0) (b := 0) hC.x hC.b rfl rfl dX10_ring_5 (by decide) (fun _ => ?_) (fun c_41 => absurd c_41 (by decide))
    refine lv_ldc hC.x hC.b hC.ow (hC.ts _ TK_X10_151) dX10_ring_52 ?_
    exact reti hC hK hR hS ⟨rfl, (trivial)⟩ dX10_ring_54

abbrev po_X10_difference (σ : SI) (τ : SL) (xa : Int32) (xq : Nat) (ya : Int32) (yq : Nat) (hr : Int32) (hq : Nat) : Int32 → SI × SL → Prop := fun v u => ((MRel (fun k => k = 68 ∨ k = 69) (fun j => j = 41 ∨ j = 43) σ u.1))
set_option maxRecDepth 100000 in
set_option maxHeartbeats 4000000 in
theorem c_X10_difference (l : Launch) {G : Gx} {A : Nat → Prop} (hG : GOk G A) (σ : SI) (τ : SL) (xa : Int32) (xq : Nat) (hp_xq : xa.toInt.toNat = xq) (ya : Int32) (yq : Nat) (hp_yq : ya.toInt.toNat = yq) (hr : Int32) (hq : Nat) (hp_hq : hr.toInt.toNat = hq) (hnw : 0 ≤ (σ 35 29).toInt ∧ (σ 35 29).toInt ≤ 200) (hln : LnM σ) : MI l G A 3 yX10_difference cX10_difference 5 (some .int) [.ref (G.2.1 35), .int xa, .int ya, .int hr] (σ, τ) (po_X10_difference σ τ xa xq ya yq hr hq) := by
  refine met_of (own := RX10) (by decide +kernel) rfl [(0, .ref (G.2.1 35)), (1, .int xa), (2, .int ya), (3, .int hr)] rfl (Nat.le_of_ble_eq_true rfl) ?_
  intro p e s m args below meth c ls hC hK hR hl
  have hS : va_S A s.heap s.heap [] := va_S.rf
  refine lv_aload_n hC.x hC.b dX10_difference_0 rfl (lv_at hl 0 rfl) ?_
  refine lv_iload_n hC.x hC.b dX10_difference_1 rfl (lv_at hl 1 rfl) ?_
  refine lv_iconst (v := 0) hC.x hC.b dX10_difference_2 (by decide) ?_
  refine lv_iconst (v := 3) hC.x hC.b dX10_difference_3 (by decide) ?_
  have av_1 : (0 : Int32).toInt = 0 := by decide
  have av_2 : (3 : Int32).toInt = 3 := by decide
  refine goip (runV (As := [.int xa, .int (0 : Int32), .int (3 : Int32)]) (rest := []) hC hK hR hl.1 (c_X10_fails l hG σ τ xa xq (by first | rfl | (rw [show xa.toInt = xa.toInt from rfl]; done) | (rw [show xa.toInt = xa.toInt from rfl]; exact hp_xq)) (0 : Int32) (3 : Int32) ) (call_b hC.ts TC_X10_fails TN_X10 TM_X10_144 hd_X10_fails ⟨Nat.le_of_ble_eq_true rfl, Nat.le_of_ble_eq_true rfl⟩) TI_X10_fails TS_X10_fails (ct_model G _ _) rfl rfl rfl (Nat.le_of_ble_eq_true rfl) dX10_difference_4 ⟨Nat.le_of_ble_eq_true rfl, Nat.le_of_ble_eq_true rfl⟩) hS (fun v_3 H locs w_4 hR hS => ?_)
  rcases w_4 with ⟨rfl, f_5⟩ | ⟨rfl, f_6, f_7, f_8⟩ | ⟨rfl, f_9, f_10, f_11⟩
  · skip
    refine lv_istore (lv' := [(4, .int (-1 : Int32)), (0, .ref (G.2.1 35)), (1, .int xa), (2, .int ya), (3, .int hr)]) hC.x hC.b dX10_difference_7 hl (by decide) rfl (fun ls hl => ?_)
    refine lv_iload hC.x hC.b dX10_difference_9 (lv_at hl 0 rfl) ?_
    refine bz_ne (tgt := 23) (a := (-1)) (b := 0) hC.x hC.b rfl rfl dX10_difference_11 (by decide) (fun _ => ?_) (fun c_12 => absurd c_12 (by decide))
    refine lv_iload hC.x hC.b dX10_difference_23 (lv_at hl 0 rfl) ?_
    refine bz_eq (tgt := 31) (a := (-1)) (b := 0) hC.x hC.b rfl rfl dX10_difference_25 (by decide) (fun c_13 => absurd c_13 (by decide)) (fun _ => ?_)
    refine lv_iload hC.x hC.b dX10_difference_28 (lv_at hl 0 rfl) ?_
    exact reti hC hK hR hS (by exact MRel.rf) dX10_difference_30
  · skip
    refine lv_istore (lv' := [(4, .int (0 : Int32)), (0, .ref (G.2.1 35)), (1, .int xa), (2, .int ya), (3, .int hr)]) hC.x hC.b dX10_difference_7 hl (by decide) rfl (fun ls hl => ?_)
    refine lv_iload hC.x hC.b dX10_difference_9 (lv_at hl 0 rfl) ?_
    refine bz_ne (tgt := 23) (a := 0) (b := 0) hC.x hC.b rfl rfl dX10_difference_11 (by decide) (fun c_14 => absurd c_14 (by decide)) (fun _ => ?_)
    refine lv_aload_n hC.x hC.b dX10_difference_14 rfl (lv_at hl 1 rfl) ?_
    refine lv_iload_n hC.x hC.b dX10_difference_15 rfl (lv_at hl 3 rfl) ?_
    refine lv_iconst (v := 0) hC.x hC.b dX10_difference_16 (by decide) ?_
    refine lv_iconst (v := 3) hC.x hC.b dX10_difference_17 (by decide) ?_
    have av_15 : (0 : Int32).toInt = 0 := by decide
    have av_16 : (3 : Int32).toInt = 3 := by decide
    refine goip (runV (As := [.int ya, .int (0 : Int32), .int (3 : Int32)]) (rest := []) hC hK hR hl.1 (c_X10_fails l hG σ τ ya yq (by first | rfl | (rw [show ya.toInt = ya.toInt from rfl]; done) | (rw [show ya.toInt = ya.toInt from rfl]; exact hp_yq)) (0 : Int32) (3 : Int32) ) (call_b hC.ts TC_X10_fails TN_X10 TM_X10_144 hd_X10_fails ⟨Nat.le_of_ble_eq_true rfl, Nat.le_of_ble_eq_true rfl⟩) TI_X10_fails TS_X10_fails (ct_model G _ _) rfl rfl rfl (Nat.le_of_ble_eq_true rfl) dX10_difference_18 ⟨Nat.le_of_ble_eq_true rfl, Nat.le_of_ble_eq_true rfl⟩) hS (fun v_17 H locs w_18 hR hS => ?_)
    rcases w_18 with ⟨rfl, f_19⟩ | ⟨rfl, f_20, f_21, f_22⟩ | ⟨rfl, f_23, f_24, f_25⟩
    · skip
      refine lv_istore (lv' := [(4, .int (-1 : Int32)), (0, .ref (G.2.1 35)), (1, .int xa), (2, .int ya), (3, .int hr)]) hC.x hC.b dX10_difference_21 hl (by decide) rfl (fun ls hl => ?_)
      refine lv_iload hC.x hC.b dX10_difference_23 (lv_at hl 0 rfl) ?_
      refine bz_eq (tgt := 31) (a := (-1)) (b := 0) hC.x hC.b rfl rfl dX10_difference_25 (by decide) (fun c_26 => absurd c_26 (by decide)) (fun _ => ?_)
      refine lv_iload hC.x hC.b dX10_difference_28 (lv_at hl 0 rfl) ?_
      exact reti hC hK hR hS (by exact MRel.rf) dX10_difference_30
    · skip
      refine lv_istore (lv' := [(4, .int (0 : Int32)), (0, .ref (G.2.1 35)), (1, .int xa), (2, .int ya), (3, .int hr)]) hC.x hC.b dX10_difference_21 hl (by decide) rfl (fun ls hl => ?_)
      refine lv_iload hC.x hC.b dX10_difference_23 (lv_at hl 0 rfl) ?_
      refine bz_eq (tgt := 31) (a := 0) (b := 0) hC.x hC.b rfl rfl dX10_difference_25 (by decide) (fun _ => ?_) (fun c_27 => absurd c_27 (by decide))
      refine lv_iload_n hC.x hC.b dX10_difference_31 rfl (lv_at hl 4 rfl) ?_
      refine lv_iconst (v := 0) hC.x hC.b dX10_difference_32 (by decide) ?_
      refine lv_aload_n hC.x hC.b dX10_difference_33 rfl (lv_at hl 1 rfl) ?_
      refine rget hC hK hR (ct_model G _ _) rfl uin_X10 29 (by decide) TF_X10_137 rfl dX10_difference_34 ?_
      have av_28 : (0 : Int32).toInt = 0 := by decide
      refine goip (runS (As := [.int hr, .int (0 : Int32), .int (σ 35 29)]) (rest := []) hC hK hR hl.1 (c_X10_isIn l hG σ τ hr (0 : Int32) (σ 35 29) ) (call_b hC.ts TC_X10_isIn TN_X10 TM_X10_129 hd_X10_isIn ⟨Nat.le_of_ble_eq_true rfl, Nat.le_of_ble_eq_true rfl⟩) TT_X10_isIn rfl rfl (Nat.le_of_ble_eq_true rfl) dX10_difference_37 ⟨Nat.le_of_ble_eq_true rfl, Nat.le_of_ble_eq_true rfl⟩) hS (fun v_29 H locs w_30 hR hS => ?_)
      rcases w_30 with ⟨rfl, f_31, f_32⟩ | ⟨rfl, f_33⟩
      · skip
        refine bz_eq (tgt := 60) (a := 1) (b := 0) hC.x hC.b rfl rfl dX10_difference_40 (by decide) (fun c_34 => absurd c_34 (by decide)) (fun _ => ?_)
        refine lv_aload_n hC.x hC.b dX10_difference_43 rfl (lv_at hl 1 rfl) ?_
        refine lv_iload_n hC.x hC.b dX10_difference_44 rfl (lv_at hl 2 rfl) ?_
        refine lv_iload_n hC.x hC.b dX10_difference_45 rfl (lv_at hl 3 rfl) ?_
        refine lv_iload_n hC.x hC.b dX10_difference_46 rfl (lv_at hl 4 rfl) ?_
        refine goi (runV (As := [.int xa, .int ya, .int hr]) (rest := []) hC hK hR hl.1 (c_X10_goes l hG σ τ xa xq (by first | rfl | (rw [show xa.toInt = xa.toInt from rfl]; done) | (rw [show xa.toInt = xa.toInt from rfl]; exact hp_xq)) ya yq (by first | rfl | (rw [show ya.toInt = ya.toInt from rfl]; done) | (rw [show ya.toInt = ya.toInt from rfl]; exact hp_yq)) hr hq (by first | rfl | (rw [show hr.toInt = hr.toInt from rfl]; done) | (rw [show hr.toInt = hr.toInt from rfl]; exact hp_hq)) (by first | assumption | omega) (by omega) (by omega) (by assumption)) (call_b hC.ts TC_X10_goes TN_X10 TM_X10_164 hd_X10_goes ⟨Nat.le_of_ble_eq_true rfl, Nat.le_of_ble_eq_true rfl⟩) TI_X10_goes TS_X10_goes (ct_model G _ _) rfl rfl rfl (Nat.le_of_ble_eq_true rfl) dX10_difference_47 ⟨Nat.le_of_ble_eq_true rfl, Nat.le_of_ble_eq_true rfl⟩) hS (fun v_35 s_37 t_38 H locs w_36 hR hS => ?_)
        try dsimp only [po_X10_goes] at w_36
        rcases w_36 with ⟨rfl, f_39, f_40⟩ | ⟨rfl, f_41, f_42⟩
        · skip
          refine bz_eq (tgt := 60) (a := 1) (b := 0) hC.x hC.b rfl rfl dX10_difference_50 (by decide) (fun c_43 => absurd c_43 (by decide)) (fun _ => ?_)
          refine lv_aload_n hC.x hC.b dX10_difference_53 rfl (lv_at hl 1 rfl) ?_
          refine rget hC hK hR (ct_model G _ _) rfl uin_X10 43 (by decide) TF_X10_158 rfl dX10_difference_54 ?_
          refine lv_goto (tgt := 62) hC.x hC.b dX10_difference_57 (by decide) ?_
          exact reti hC hK hR hS (by exact (MRel.tr MRel.rf f_39)) dX10_difference_62
        · skip
          refine bz_eq (tgt := 60) (a := 0) (b := 0) hC.x hC.b rfl rfl dX10_difference_50 (by decide) (fun _ => ?_) (fun c_44 => absurd c_44 (by decide))
          refine lv_ldc hC.x hC.b hC.ow (hC.ts _ TK_X10_151) dX10_difference_60 ?_
          exact reti hC hK hR hS (by exact (MRel.tr MRel.rf f_41)) dX10_difference_62
      · skip
        refine bz_eq (tgt := 60) (a := 0) (b := 0) hC.x hC.b rfl rfl dX10_difference_40 (by decide) (fun _ => ?_) (fun c_45 => absurd c_45 (by decide))
        refine lv_ldc hC.x hC.b hC.ow (hC.ts _ TK_X10_151) dX10_difference_60 ?_
        exact reti hC hK hR hS (by exact MRel.rf) dX10_difference_62
    · skip
      refine lv_istore (lv' := [(4, .int (-2 : Int32)), (0, .ref (G.2.1 35)), (1, .int xa), (2, .int ya), (3, .int hr)]) hC.x hC.b dX10_difference_21 hl (by decide) rfl (fun ls hl => ?_)
      refine lv_iload hC.x hC.b dX10_difference_23 (lv_at hl 0 rfl) ?_
      refine bz_eq (tgt := 31) (a := (-2)) (b := 0) hC.x hC.b rfl rfl dX10_difference_25 (by decide) (fun c_46 => absurd c_46 (by decide)) (fun _ => ?_)
      refine lv_iload hC.x hC.b dX10_difference_28 (lv_at hl 0 rfl) ?_
      exact reti hC hK hR hS (by exact MRel.rf) dX10_difference_30
  · skip
    refine lv_istore (lv' := [(4, .int (-2 : Int32)), (0, .ref (G.2.1 35)), (1, .int xa), (2, .int ya), (3, .int hr)]) hC.x hC.b dX10_difference_7 hl (by decide) rfl (fun ls hl => ?_)
    refine lv_iload hC.x hC.b dX10_difference_9 (lv_at hl 0 rfl) ?_
    refine bz_ne (tgt := 23) (a := (-2)) (b := 0) hC.x hC.b rfl rfl dX10_difference_11 (by decide) (fun _ => ?_) (fun c_47 => absurd c_47 (by decide))
    refine lv_iload hC.x hC.b dX10_difference_23 (lv_at hl 0 rfl) ?_
    refine bz_eq (tgt := 31) (a := (-2)) (b := 0) hC.x hC.b rfl rfl dX10_difference_25 (by decide) (fun c_48 => absurd c_48 (by decide)) (fun _ => ?_)
    refine lv_iload hC.x hC.b dX10_difference_28 (lv_at hl 0 rfl) ?_
    exact reti hC hK hR hS (by exact MRel.rf) dX10_difference_30

abbrev po_X10_along (σ : SI) (τ : SL) (xa : Int32) (xq : Nat) (ya : Int32) (yq : Nat) (hr : Int32) (hq : Nat) : Int32 → SI × SL → Prop := fun v u => ((MRel (fun k => 68 ≤ k ∧ k ≤ 70) (fun j => 41 ≤ j ∧ j ≤ 43) σ u.1) ∧ (0 ≤ (u.1 35 42).toInt ∧ (u.1 35 42).toInt ≤ 24))
set_option maxRecDepth 100000 in
set_option maxHeartbeats 4000000 in
theorem c_X10_along (l : Launch) {G : Gx} {A : Nat → Prop} (hG : GOk G A) (σ : SI) (τ : SL) (xa : Int32) (xq : Nat) (hp_xq : xa.toInt.toNat = xq) (ya : Int32) (yq : Nat) (hp_yq : ya.toInt.toNat = yq) (hr : Int32) (hq : Nat) (hp_hq : hr.toInt.toNat = hq) (hnw : 0 ≤ (σ 35 29).toInt ∧ (σ 35 29).toInt ≤ 200) (hln : LnM σ) (hgn : 0 ≤ (σ 35 42).toInt ∧ (σ 35 42).toInt ≤ 24) : MI l G A 3 yX10_along cX10_along 6 (some .int) [.ref (G.2.1 35), .int xa, .int ya, .int hr] (σ, τ) (po_X10_along σ τ xa xq ya yq hr hq) := by
  refine met_of (own := RX10) (by decide +kernel) rfl [(0, .ref (G.2.1 35)), (1, .int xa), (2, .int ya), (3, .int hr)] rfl (Nat.le_of_ble_eq_true rfl) ?_
  intro p e s m args below meth c ls hC hK hR hl
  have hS : va_S A s.heap s.heap [] := va_S.rf
  refine lv_aload_n hC.x hC.b dX10_along_0 rfl (lv_at hl 0 rfl) ?_
  refine lv_iload_n hC.x hC.b dX10_along_1 rfl (lv_at hl 1 rfl) ?_
  refine lv_iconst (v := 0) hC.x hC.b dX10_along_2 (by decide) ?_
  refine lv_iconst (v := 3) hC.x hC.b dX10_along_3 (by decide) ?_
  have av_1 : (0 : Int32).toInt = 0 := by decide
  have av_2 : (3 : Int32).toInt = 3 := by decide
  refine goip (runV (As := [.int xa, .int (0 : Int32), .int (3 : Int32)]) (rest := []) hC hK hR hl.1 (c_X10_fails l hG σ τ xa xq (by first | rfl | (rw [show xa.toInt = xa.toInt from rfl]; done) | (rw [show xa.toInt = xa.toInt from rfl]; exact hp_xq)) (0 : Int32) (3 : Int32) ) (call_b hC.ts TC_X10_fails TN_X10 TM_X10_144 hd_X10_fails ⟨Nat.le_of_ble_eq_true rfl, Nat.le_of_ble_eq_true rfl⟩) TI_X10_fails TS_X10_fails (ct_model G _ _) rfl rfl rfl (Nat.le_of_ble_eq_true rfl) dX10_along_4 ⟨Nat.le_of_ble_eq_true rfl, Nat.le_of_ble_eq_true rfl⟩) hS (fun v_3 H locs w_4 hR hS => ?_)
  rcases w_4 with ⟨rfl, f_5⟩ | ⟨rfl, f_6, f_7, f_8⟩ | ⟨rfl, f_9, f_10, f_11⟩
  · skip
    refine lv_istore (lv' := [(4, .int (-1 : Int32)), (0, .ref (G.2.1 35)), (1, .int xa), (2, .int ya), (3, .int hr)]) hC.x hC.b dX10_along_7 hl (by decide) rfl (fun ls hl => ?_)
    refine lv_iload hC.x hC.b dX10_along_9 (lv_at hl 0 rfl) ?_
    refine bz_ne (tgt := 23) (a := (-1)) (b := 0) hC.x hC.b rfl rfl dX10_along_11 (by decide) (fun _ => ?_) (fun c_12 => absurd c_12 (by decide))
    refine lv_iload hC.x hC.b dX10_along_23 (lv_at hl 0 rfl) ?_
    refine bz_eq (tgt := 31) (a := (-1)) (b := 0) hC.x hC.b rfl rfl dX10_along_25 (by decide) (fun c_13 => absurd c_13 (by decide)) (fun _ => ?_)
    refine lv_iload hC.x hC.b dX10_along_28 (lv_at hl 0 rfl) ?_
    exact reti hC hK hR hS (⟨by exact MRel.rf, by first | omega | (dsimp only; omega)⟩) dX10_along_30
  · skip
    refine lv_istore (lv' := [(4, .int (0 : Int32)), (0, .ref (G.2.1 35)), (1, .int xa), (2, .int ya), (3, .int hr)]) hC.x hC.b dX10_along_7 hl (by decide) rfl (fun ls hl => ?_)
    refine lv_iload hC.x hC.b dX10_along_9 (lv_at hl 0 rfl) ?_
    refine bz_ne (tgt := 23) (a := 0) (b := 0) hC.x hC.b rfl rfl dX10_along_11 (by decide) (fun c_14 => absurd c_14 (by decide)) (fun _ => ?_)
    refine lv_aload_n hC.x hC.b dX10_along_14 rfl (lv_at hl 1 rfl) ?_
    refine lv_iload_n hC.x hC.b dX10_along_15 rfl (lv_at hl 3 rfl) ?_
    refine lv_iconst (v := 0) hC.x hC.b dX10_along_16 (by decide) ?_
    refine lv_iconst (v := 3) hC.x hC.b dX10_along_17 (by decide) ?_
    have av_15 : (0 : Int32).toInt = 0 := by decide
    have av_16 : (3 : Int32).toInt = 3 := by decide
    refine goip (runV (As := [.int ya, .int (0 : Int32), .int (3 : Int32)]) (rest := []) hC hK hR hl.1 (c_X10_fails l hG σ τ ya yq (by first | rfl | (rw [show ya.toInt = ya.toInt from rfl]; done) | (rw [show ya.toInt = ya.toInt from rfl]; exact hp_yq)) (0 : Int32) (3 : Int32) ) (call_b hC.ts TC_X10_fails TN_X10 TM_X10_144 hd_X10_fails ⟨Nat.le_of_ble_eq_true rfl, Nat.le_of_ble_eq_true rfl⟩) TI_X10_fails TS_X10_fails (ct_model G _ _) rfl rfl rfl (Nat.le_of_ble_eq_true rfl) dX10_along_18 ⟨Nat.le_of_ble_eq_true rfl, Nat.le_of_ble_eq_true rfl⟩) hS (fun v_17 H locs w_18 hR hS => ?_)
    rcases w_18 with ⟨rfl, f_19⟩ | ⟨rfl, f_20, f_21, f_22⟩ | ⟨rfl, f_23, f_24, f_25⟩
    · skip
      refine lv_istore (lv' := [(4, .int (-1 : Int32)), (0, .ref (G.2.1 35)), (1, .int xa), (2, .int ya), (3, .int hr)]) hC.x hC.b dX10_along_21 hl (by decide) rfl (fun ls hl => ?_)
      refine lv_iload hC.x hC.b dX10_along_23 (lv_at hl 0 rfl) ?_
      refine bz_eq (tgt := 31) (a := (-1)) (b := 0) hC.x hC.b rfl rfl dX10_along_25 (by decide) (fun c_26 => absurd c_26 (by decide)) (fun _ => ?_)
      refine lv_iload hC.x hC.b dX10_along_28 (lv_at hl 0 rfl) ?_
      exact reti hC hK hR hS (⟨by exact MRel.rf, by first | omega | (dsimp only; omega)⟩) dX10_along_30
    · skip
      refine lv_istore (lv' := [(4, .int (0 : Int32)), (0, .ref (G.2.1 35)), (1, .int xa), (2, .int ya), (3, .int hr)]) hC.x hC.b dX10_along_21 hl (by decide) rfl (fun ls hl => ?_)
      refine lv_iload hC.x hC.b dX10_along_23 (lv_at hl 0 rfl) ?_
      refine bz_eq (tgt := 31) (a := 0) (b := 0) hC.x hC.b rfl rfl dX10_along_25 (by decide) (fun _ => ?_) (fun c_27 => absurd c_27 (by decide))
      refine lv_iload_n hC.x hC.b dX10_along_31 rfl (lv_at hl 4 rfl) ?_
      refine lv_iconst (v := 0) hC.x hC.b dX10_along_32 (by decide) ?_
      refine lv_aload_n hC.x hC.b dX10_along_33 rfl (lv_at hl 1 rfl) ?_
      refine rget hC hK hR (ct_model G _ _) rfl uin_X10 29 (by decide) TF_X10_137 rfl dX10_along_34 ?_
      have av_28 : (0 : Int32).toInt = 0 := by decide
      refine goip (runS (As := [.int hr, .int (0 : Int32), .int (σ 35 29)]) (rest := []) hC hK hR hl.1 (c_X10_isIn l hG σ τ hr (0 : Int32) (σ 35 29) ) (call_b hC.ts TC_X10_isIn TN_X10 TM_X10_129 hd_X10_isIn ⟨Nat.le_of_ble_eq_true rfl, Nat.le_of_ble_eq_true rfl⟩) TT_X10_isIn rfl rfl (Nat.le_of_ble_eq_true rfl) dX10_along_37 ⟨Nat.le_of_ble_eq_true rfl, Nat.le_of_ble_eq_true rfl⟩) hS (fun v_29 H locs w_30 hR hS => ?_)
      rcases w_30 with ⟨rfl, f_31, f_32⟩ | ⟨rfl, f_33⟩
      · skip
        refine bz_eq (tgt := 53) (a := 1) (b := 0) hC.x hC.b rfl rfl dX10_along_40 (by decide) (fun c_34 => absurd c_34 (by decide)) (fun _ => ?_)
        refine lv_aload_n hC.x hC.b dX10_along_43 rfl (lv_at hl 1 rfl) ?_
        refine lv_iload_n hC.x hC.b dX10_along_44 rfl (lv_at hl 2 rfl) ?_
        refine lv_iload_n hC.x hC.b dX10_along_45 rfl (lv_at hl 3 rfl) ?_
        refine lv_iload_n hC.x hC.b dX10_along_46 rfl (lv_at hl 4 rfl) ?_
        refine goi (runV (As := [.int xa, .int ya, .int hr]) (rest := []) hC hK hR hl.1 (c_X10_goes l hG σ τ xa xq (by first | rfl | (rw [show xa.toInt = xa.toInt from rfl]; done) | (rw [show xa.toInt = xa.toInt from rfl]; exact hp_xq)) ya yq (by first | rfl | (rw [show ya.toInt = ya.toInt from rfl]; done) | (rw [show ya.toInt = ya.toInt from rfl]; exact hp_yq)) hr hq (by first | rfl | (rw [show hr.toInt = hr.toInt from rfl]; done) | (rw [show hr.toInt = hr.toInt from rfl]; exact hp_hq)) (by first | assumption | omega) (by omega) (by omega) (by assumption)) (call_b hC.ts TC_X10_goes TN_X10 TM_X10_164 hd_X10_goes ⟨Nat.le_of_ble_eq_true rfl, Nat.le_of_ble_eq_true rfl⟩) TI_X10_goes TS_X10_goes (ct_model G _ _) rfl rfl rfl (Nat.le_of_ble_eq_true rfl) dX10_along_47 ⟨Nat.le_of_ble_eq_true rfl, Nat.le_of_ble_eq_true rfl⟩) hS (fun v_35 s_37 t_38 H locs w_36 hR hS => ?_)
        try dsimp only [po_X10_goes] at w_36
        rcases w_36 with ⟨rfl, f_39, f_40⟩ | ⟨rfl, f_41, f_42⟩
        · skip
          refine bz_ne (tgt := 55) (a := 1) (b := 0) hC.x hC.b rfl rfl dX10_along_50 (by decide) (fun _ => ?_) (fun c_43 => absurd c_43 (by decide))
          refine lv_aload_n hC.x hC.b dX10_along_55 rfl (lv_at hl 1 rfl) ?_
          refine lv_aload_n hC.x hC.b dX10_along_56 rfl (lv_at hl 1 rfl) ?_
          refine rget hC hK hR (ct_model G _ _) rfl uin_X10 41 (by decide) TF_X10_155 rfl dX10_along_57 ?_
          refine rputi hC hK hG hR hS (ct_model G _ _) rfl uin_X10 tyX10 tyX10_ok nmX10 42 (by decide) TF_X10_167 rfl (Or.inl rfl) (Nat.le_of_ble_eq_true rfl) rfl (ct_model G _ _) dX10_along_60 (fun s_45 es_44 H locs hR hS => ?_)
          refine lv_iconst (v := 0) hC.x hC.b dX10_along_63 (by decide) ?_
          refine lv_istore (lv' := [(5, .int (0 : Int32)), (4, .int (0 : Int32)), (0, .ref (G.2.1 35)), (1, .int xa), (2, .int ya), (3, .int hr)]) hC.x hC.b dX10_along_64 hl (by decide) rfl (fun ls hl => ?_)
          have L_66 : ∀ (F : Nat) (n : Nat) (s1 : SI), (24 - n) < F → (n ≤ 24) → (0 ≤ (s1 35 42).toInt ∧ (s1 35 42).toInt ≤ 24) → (MRel (fun k => 68 ≤ k ∧ k ≤ 70) (fun j => 41 ≤ j ∧ j ≤ 43) σ s1) → ∀ (H : Heap) (locs : List Loc) (ls : Array Slot), RepH G s1 t_38 H → va_S A s.heap H locs → lv_has ls 6 [(0, .ref (G.2.1 35)), (5, .int (nI n))] → W p l e (rmD 3) s m args below meth c H locs 0 0 (MQ below (va_Qi (po_X10_along σ τ xa xq ya yq hr hq) (BU G) A) args s 0 0 A) (F0 m 66 ls []) := by
            intro F
            induction F with
            | zero => intro n s1 hm; exact absurd hm (Nat.not_lt_zero _)
            | succ F ih_66 =>
              intro n s1 hm_66 hi0_66 hi1_66 hi2_66 H locs ls hR hS hl
              have hnI := nI_T n (by omega)
              refine lv_iload hC.x hC.b dX10_along_66 (lv_at hl 1 rfl) ?_
              refine lv_aload_n hC.x hC.b dX10_along_68 rfl (lv_at hl 0 rfl) ?_
              refine rget hC hK hR (ct_model G _ _) rfl uin_X10 42 (by decide) TF_X10_167 rfl dX10_along_69 ?_
              refine bi_ge (tgt := 95) (a := (n : Int)) (b := (s1 35 42).toInt) hC.x hC.b (nI_T n (by omega)) rfl dX10_along_72 (by decide) (fun c_46 => ?_) (fun c_46 => ?_)
              · skip
                refine lv_aload_n hC.x hC.b dX10_along_95 rfl (lv_at hl 0 rfl) ?_
                refine rget hC hK hR (ct_model G _ _) rfl uin_X10 42 (by decide) TF_X10_167 rfl dX10_along_96 ?_
                exact reti hC hK hR hS (⟨by exact hi2_66, by first | omega | (dsimp only; omega)⟩) dX10_along_99
              · skip
                refine lv_aload_n hC.x hC.b dX10_along_75 rfl (lv_at hl 0 rfl) ?_
                refine rget hC hK hR (ct_model G _ _) rfl uin_X10 40 (by decide) TF_X10_123 rfl dX10_along_76 ?_
                refine lv_iload hC.x hC.b dX10_along_79 (lv_at hl 1 rfl) ?_
                refine lv_aload_n hC.x hC.b dX10_along_81 rfl (lv_at hl 0 rfl) ?_
                refine rget hC hK hR (ct_model G _ _) rfl uin_X10 39 (by decide) TF_X10_120 rfl dX10_along_82 ?_
                refine lv_iload hC.x hC.b dX10_along_85 (lv_at hl 1 rfl) ?_
                refine ald hC hK hR (ct_m_going G _ _) (nI_T n (by omega)) (by omega) (by omega) (Int.toNat_natCast _) dX10_along_87 ?_
                refine ast hC hK hG hR hS (fun _ => ct_m_gone G _ _) (nI_T n (by omega)) (by omega) (by omega) (Int.toNat_natCast _) dX10_along_88 (fun s_47 es_48 H locs hR hS => ?_)
                refine lv_iinc (v := nI (n + 1)) (lv' := [(5, .int (nI (n + 1))), (0, .ref (G.2.1 35))]) hC.x hC.b dX10_along_89 hl (k := 1) rfl (nI_succ _).symm (by decide) rfl (fun ls hl => ?_)
                refine lv_goto (tgt := 66) hC.x hC.b dX10_along_92 (by decide) ?_
                have rd_49 : (s_47 35 42).toInt = (s1 35 42).toInt := congrArg Int32.toInt (show s_47 35 42 = s1 35 42 from (by rw [es_48]; exact up2_o (by omega)))
                exact ih_66 (n + 1) s_47 (by omega) (by first | omega | assumption) (by omega) (by rw [es_48]; exact MRel.up (hi2_66) (by omega) (by first | omega | (dsimp only; omega))) _ _ _ hR hS (lv_sub hl [1, 0] rfl)
          have rd_50 : (s_45 35 42).toInt = (s_37 35 41).toInt := congrArg Int32.toInt (show s_45 35 42 = (s_37 35 41) from (by rw [es_44]; exact up2_s))
          exact L_66 _ 0 s_45 (Nat.lt_succ_self _) (by first | omega | assumption) (by omega) (by rw [es_44]; exact MRel.upm ((MRel.tr MRel.rf (MRel.mo f_39 (by intro k q; first | omega | (dsimp only at q ⊢; omega) | exact q.elim) (by intro j q; first | omega | (dsimp only at q ⊢; omega) | exact q.elim)))) (by first | omega | (dsimp only; omega))) _ _ _ hR hS (lv_sub hl [2, 0] rfl)
        · skip
          refine bz_ne (tgt := 55) (a := 0) (b := 0) hC.x hC.b rfl rfl dX10_along_50 (by decide) (fun c_51 => absurd c_51 (by decide)) (fun _ => ?_)
          refine lv_iconst (v := (-1)) hC.x hC.b dX10_along_53 (by decide) ?_
          have rd_52 : (s_37 35 42).toInt = (σ 35 42).toInt := congrArg Int32.toInt (show s_37 35 42 = σ 35 42 from f_41.2 42 (by first | omega | (dsimp only; omega)))
          exact reti hC hK hR hS (⟨by exact (MRel.tr MRel.rf (MRel.mo f_41 (by intro k q; first | omega | (dsimp only at q ⊢; omega) | exact q.elim) (by intro j q; first | omega | (dsimp only at q ⊢; omega) | exact q.elim))), by first | omega | (dsimp only; omega)⟩) dX10_along_54
      · skip
        refine bz_eq (tgt := 53) (a := 0) (b := 0) hC.x hC.b rfl rfl dX10_along_40 (by decide) (fun _ => ?_) (fun c_53 => absurd c_53 (by decide))
        refine lv_iconst (v := (-1)) hC.x hC.b dX10_along_53 (by decide) ?_
        exact reti hC hK hR hS (⟨by exact MRel.rf, by first | omega | (dsimp only; omega)⟩) dX10_along_54
    · skip
      refine lv_istore (lv' := [(4, .int (-2 : Int32)), (0, .ref (G.2.1 35)), (1, .int xa), (2, .int ya), (3, .int hr)]) hC.x hC.b dX10_along_21 hl (by decide) rfl (fun ls hl => ?_)
      refine lv_iload hC.x hC.b dX10_along_23 (lv_at hl 0 rfl) ?_
      refine bz_eq (tgt := 31) (a := (-2)) (b := 0) hC.x hC.b rfl rfl dX10_along_25 (by decide) (fun c_54 => absurd c_54 (by decide)) (fun _ => ?_)
      refine lv_iload hC.x hC.b dX10_along_28 (lv_at hl 0 rfl) ?_
      exact reti hC hK hR hS (⟨by exact MRel.rf, by first | omega | (dsimp only; omega)⟩) dX10_along_30
  · skip
    refine lv_istore (lv' := [(4, .int (-2 : Int32)), (0, .ref (G.2.1 35)), (1, .int xa), (2, .int ya), (3, .int hr)]) hC.x hC.b dX10_along_7 hl (by decide) rfl (fun ls hl => ?_)
    refine lv_iload hC.x hC.b dX10_along_9 (lv_at hl 0 rfl) ?_
    refine bz_ne (tgt := 23) (a := (-2)) (b := 0) hC.x hC.b rfl rfl dX10_along_11 (by decide) (fun _ => ?_) (fun c_55 => absurd c_55 (by decide))
    refine lv_iload hC.x hC.b dX10_along_23 (lv_at hl 0 rfl) ?_
    refine bz_eq (tgt := 31) (a := (-2)) (b := 0) hC.x hC.b rfl rfl dX10_along_25 (by decide) (fun c_56 => absurd c_56 (by decide)) (fun _ => ?_)
    refine lv_iload hC.x hC.b dX10_along_28 (lv_at hl 0 rfl) ?_
    exact reti hC hK hR hS (⟨by exact MRel.rf, by first | omega | (dsimp only; omega)⟩) dX10_along_30
