/-! ===== rings: what the least link tells between two ===== -/
def tbC (σ : SI) (a b hr : Int32) : Nat → Int32
  | 0 => 1000000
  | k + 1 => if 4 ≤ (σ 2 (23 - k)).toInt ∧ (σ 2 (23 - k)).toInt ≤ 6 ∧ (toldC σ (23 - k) hr).toInt ≠ 1000000 then (if (σ (104 + (23 - k)) 1).toInt = a.toInt ∧ (σ (104 + (23 - k)) 2).toInt = b.toInt then toldC σ (23 - k) hr else if (σ (104 + (23 - k)) 1).toInt = b.toInt ∧ (σ (104 + (23 - k)) 2).toInt = a.toInt then -toldC σ (23 - k) hr else tbC σ a b hr k) else tbC σ a b hr k
theorem tbC_s {σ : SI} {a b hr : Int32} {n : Nat} (h : n < 24) : tbC σ a b hr (24 - n) = if 4 ≤ (σ 2 n).toInt ∧ (σ 2 n).toInt ≤ 6 ∧ (toldC σ n hr).toInt ≠ 1000000 then (if (σ (104 + n) 1).toInt = a.toInt ∧ (σ (104 + n) 2).toInt = b.toInt then toldC σ n hr else if (σ (104 + n) 1).toInt = b.toInt ∧ (σ (104 + n) 2).toInt = a.toInt then -toldC σ n hr else tbC σ a b hr (24 - (n + 1))) else tbC σ a b hr (24 - (n + 1)) := by
  have e1 : 24 - n = (23 - n) + 1 := by omega
  have e2 : 24 - (n + 1) = 23 - n := by omega
  have e3 : 23 - (23 - n) = n := by omega
  rw [e1, e2]
  show (if 4 ≤ (σ 2 (23 - (23 - n))).toInt ∧ _ then _ else _) = _
  rw [e3]
def rgC (σ : SI) (a b c hr : Int32) : Int32 := if 0 ≤ hr.toInt ∧ hr.toInt ≤ (σ 0 8).toInt then (if (tbC σ a b hr 24).toInt = 1000000 ∨ (tbC σ b c hr 24).toInt = 1000000 ∨ (tbC σ c a hr 24).toInt = 1000000 then 1000000 else tbC σ a b hr 24 + tbC σ b c hr 24 + tbC σ c a hr 24) else 1000000
def dbM (σ : SI) (a b hr : Int32) (hq : Nat) : Nat → Int32
  | 0 => 1000000
  | k + 1 => if 4 ≤ (σ 36 (23 - k)).toInt ∧ (σ 36 (23 - k)).toInt ≤ 6 ∧ (otherM σ (23 - k) a).toInt = b.toInt ∧ (toldM σ (23 - k) hr hq).toInt ≠ 1000000 then (if (σ 37 (23 - k)).toInt = a.toInt then toldM σ (23 - k) hr hq else -toldM σ (23 - k) hr hq) else dbM σ a b hr hq k
theorem dbM_s {σ : SI} {a b hr : Int32} {hq n : Nat} (h : n < 24) : dbM σ a b hr hq (24 - n) = if 4 ≤ (σ 36 n).toInt ∧ (σ 36 n).toInt ≤ 6 ∧ (otherM σ n a).toInt = b.toInt ∧ (toldM σ n hr hq).toInt ≠ 1000000 then (if (σ 37 n).toInt = a.toInt then toldM σ n hr hq else -toldM σ n hr hq) else dbM σ a b hr hq (24 - (n + 1)) := by
  have e1 : 24 - n = (23 - n) + 1 := by omega
  have e2 : 24 - (n + 1) = 23 - n := by omega
  have e3 : 23 - (23 - n) = n := by omega
  rw [e1, e2]
  show (if 4 ≤ (σ 36 (23 - (23 - n))).toInt ∧ _ then _ else _) = _
  rw [e3]
def rgM (σ : SI) (a : Int32) (aq : Nat) (b : Int32) (bq : Nat) (c : Int32) (cq : Nat) (hr : Int32) (hq : Nat) : Int32 :=
  if (0 ≤ a.toInt ∧ a.toInt < 24 ∧ 0 ≤ (σ 36 aq).toInt ∧ (σ 36 aq).toInt ≤ 3) ∧ (0 ≤ b.toInt ∧ b.toInt < 24 ∧ 0 ≤ (σ 36 bq).toInt ∧ (σ 36 bq).toInt ≤ 3) ∧ (0 ≤ c.toInt ∧ c.toInt < 24 ∧ 0 ≤ (σ 36 cq).toInt ∧ (σ 36 cq).toInt ≤ 3) ∧ a.toInt ≠ b.toInt ∧ b.toInt ≠ c.toInt ∧ a.toInt ≠ c.toInt ∧ 0 ≤ hr.toInt ∧ hr.toInt ≤ (σ 35 29).toInt then
    (if (dbM σ a b hr hq 24).toInt = 1000000 ∨ (dbM σ b c hr hq 24).toInt = 1000000 ∨ (dbM σ c a hr hq 24).toInt = 1000000 then 1000000 else dbM σ a b hr hq 24 + dbM σ b c hr hq 24 + dbM σ c a hr hq 24) else 1000000

abbrev po2_X5_toldBetween (σ : SI) (τ : SL) (xa : Int32) (ya : Int32) (hr : Int32) : Int32 → SI × SL → Prop := fun v u => u = (σ, τ) ∧ (((v = (tbC σ xa ya hr 24))))
set_option maxRecDepth 100000 in
set_option maxHeartbeats 4000000 in
theorem c2_X5_toldBetween (l : Launch) {G : Gx} {A : Nat → Prop} (hG : GOk G A) (σ : SI) (τ : SL) (xa : Int32) (ya : Int32) (hr : Int32) : MI l G A 2 yX5_toldBetween cX5_toldBetween 6 (some .int) [.ref (G.2.1 1), .int xa, .int ya, .int hr] (σ, τ) (po2_X5_toldBetween σ τ xa ya hr) := by
  refine met_of (own := RX5) (by decide +kernel) rfl [(0, .ref (G.2.1 1)), (1, .int xa), (2, .int ya), (3, .int hr)] rfl (Nat.le_of_ble_eq_true rfl) ?_
  intro p e s m args below meth c ls hC hK hR hl
  have hS : va_S A s.heap s.heap [] := va_S.rf
  refine lv_iconst (v := 0) hC.x hC.b dX5_toldBetween_0 (by decide) ?_
  refine lv_istore (lv' := [(4, .int (0 : Int32)), (0, .ref (G.2.1 1)), (1, .int xa), (2, .int ya), (3, .int hr)]) hC.x hC.b dX5_toldBetween_1 hl (by decide) rfl (fun ls hl => ?_)
  have L_3 : ∀ (F : Nat) (n : Nat), (24 - n) < F → (n ≤ 24) → (tbC σ xa ya hr 24 = tbC σ xa ya hr (24 - n)) → ∀ (H : Heap) (locs : List Loc) (ls : Array Slot), RepH G σ τ H → va_S A s.heap H locs → lv_has ls 6 [(0, .ref (G.2.1 1)), (1, .int xa), (2, .int ya), (3, .int hr), (4, .int (nI n))] → W p l e (rmD 2) s m args below meth c H locs 0 0 (MQ below (va_Qi (po2_X5_toldBetween σ τ xa ya hr) (BU G) A) args s 0 0 A) (F0 m 3 ls []) := by
    intro F
    induction F with
    | zero => intro n hm; exact absurd hm (Nat.not_lt_zero _)
    | succ F ih_3 =>
      intro n hm_3 hi0_3 hi1_3 H locs ls hR hS hl
      have hnI := nI_T n (by omega)
      refine lv_iload hC.x hC.b dX5_toldBetween_3 (lv_at hl 4 rfl) ?_
      refine lv_bipush (v := 24) hC.x hC.b dX5_toldBetween_5 (by decide) ?_
      refine bi_ge (tgt := 94) (a := (n : Int)) (b := 24) hC.x hC.b (nI_T n (by omega)) rfl dX5_toldBetween_7 (by decide) (fun c_1 => ?_) (fun c_1 => ?_)
      · skip
        refine lv_ldc hC.x hC.b hC.ow (hC.ts _ TK_X5_67) dX5_toldBetween_94 ?_
        exact reti hC hK hR hS ⟨rfl, (by first | (rw [hi1_3, tbC_s (by omega)]; (repeat (first | rfl | rw [if_pos (by omega)] | rw [if_neg (by omega)])); done) | (exfalso; omega) | ((have e9 : n = 24 := by omega); subst e9; rw [hi1_3]; rfl))⟩ dX5_toldBetween_96
      · skip
        refine lv_aload_n hC.x hC.b dX5_toldBetween_10 rfl (lv_at hl 0 rfl) ?_
        refine lv_iload hC.x hC.b dX5_toldBetween_11 (lv_at hl 4 rfl) ?_
        have av_2 : (nI n).toInt = (n : Int) := (nI_T n (by omega))
        refine goqp (runV (As := [.int (nI n)]) (rest := []) hC hK hR hl.1 (c_X5_linkAt l hG σ τ (nI n) n (by first | rfl | (rw [show (nI n).toInt = (n : Int) from (nI_T n (by omega))]; done) | (rw [show (nI n).toInt = (n : Int) from (nI_T n (by omega))]; exact (Int.toNat_natCast _))) ) (call_b hC.ts TC_X5_linkAt TN_X5 TM_X5_53 hd_X5_linkAt ⟨Nat.le_of_ble_eq_true rfl, Nat.le_of_ble_eq_true rfl⟩) TI_X5_linkAt TS_X5_linkAt (ct_shelf G _ _) rfl rfl rfl (Nat.le_of_ble_eq_true rfl) dX5_toldBetween_13 ⟨Nat.le_of_ble_eq_true rfl, Nat.le_of_ble_eq_true rfl⟩) hS (fun v_3 H locs w_4 hR hS => ?_)
        rcases w_4 with ⟨rfl, f_5⟩ | ⟨rfl, f_6, f_7, f_8, f_9⟩
        · skip
          refine lv_astoreN (lv' := [(5, .null), (0, .ref (G.2.1 1)), (1, .int xa), (2, .int ya), (3, .int hr), (4, .int (nI n))]) hC.x hC.b dX5_toldBetween_16 hl (by decide) rfl (fun ls hl => ?_)
          refine lv_aloadN hC.x hC.b dX5_toldBetween_18 (lv_at hl 0 rfl) ?_
          refine lv_ifnullN (tgt := 88) hC.x hC.b dX5_toldBetween_20 (by decide) ?_
          refine lv_iinc (v := nI (n + 1)) (lv' := [(4, .int (nI (n + 1))), (5, .null), (0, .ref (G.2.1 1)), (1, .int xa), (2, .int ya), (3, .int hr)]) hC.x hC.b dX5_toldBetween_88 hl (k := 5) rfl (nI_succ _).symm (by decide) rfl (fun ls hl => ?_)
          refine lv_goto (tgt := 3) hC.x hC.b dX5_toldBetween_91 (by decide) ?_
          exact ih_3 (n + 1) (by omega) (by first | omega | assumption) (by rw [hi1_3, tbC_s (by omega)]; (repeat (first | rfl | rw [if_pos (by omega)] | rw [if_neg (by omega)]))) _ _ _ hR hS (lv_sub hl [2, 3, 4, 5, 0] rfl)
        · skip
          have hq_10 : n < 24 := by omega
          refine lv_astore (lv' := [(5, .ref (G.2.1 (104 + n))), (0, .ref (G.2.1 1)), (1, .int xa), (2, .int ya), (3, .int hr), (4, .int (nI n))]) hC.x hC.b dX5_toldBetween_16 hl (by decide) rfl (fun ls hl => ?_)
          refine lv_aload hC.x hC.b dX5_toldBetween_18 (lv_at hl 0 rfl) ?_
          refine lv_ifnull hC.x hC.b dX5_toldBetween_20 ?_
          refine lv_aload hC.x hC.b dX5_toldBetween_23 (lv_at hl 0 rfl) ?_
          refine lv_iload_n hC.x hC.b dX5_toldBetween_25 rfl (lv_at hl 4 rfl) ?_
          refine goip (runV (As := [.int hr]) (rest := []) hC hK hR hl.1 (c_X4_toldAt l hG σ τ n hq_10 hr ) (call_b hC.ts TC_X4_toldAt TN_X4 TM_X5_64 hd_X4_toldAt ⟨Nat.le_of_ble_eq_true rfl, Nat.le_of_ble_eq_true rfl⟩) TI_X4_toldAt TS_X4_toldAt (ct_link hq_10 G _ _) rfl rfl rfl (Nat.le_of_ble_eq_true rfl) dX5_toldBetween_26 ⟨Nat.le_of_ble_eq_true rfl, Nat.le_of_ble_eq_true rfl⟩) hS (fun v_11 H locs w_12 hR hS => ?_)
          subst w_12
          refine lv_ldc hC.x hC.b hC.ow (hC.ts _ TK_X5_67) dX5_toldBetween_29 ?_
          refine bi_ne (tgt := 37) (a := (toldC σ n hr).toInt) (b := 1000000) hC.x hC.b rfl rfl dX5_toldBetween_31 (by decide) (fun c_13 => ?_) (fun c_13 => ?_)
          · skip
            refine lv_aload hC.x hC.b dX5_toldBetween_37 (lv_at hl 0 rfl) ?_
            refine rget hC hK hR (ct_link hq_10 G _ _) rfl uin_X4 1 (by decide) TF_X5_57 rfl dX5_toldBetween_39 ?_
            refine lv_iload_n hC.x hC.b dX5_toldBetween_42 rfl (lv_at hl 2 rfl) ?_
            refine bi_ne (tgt := 62) (a := (σ (104 + n) 1).toInt) (b := xa.toInt) hC.x hC.b rfl rfl dX5_toldBetween_43 (by decide) (fun c_14 => ?_) (fun c_14 => ?_)
            · skip
              refine lv_aload hC.x hC.b dX5_toldBetween_62 (lv_at hl 0 rfl) ?_
              refine rget hC hK hR (ct_link hq_10 G _ _) rfl uin_X4 1 (by decide) TF_X5_57 rfl dX5_toldBetween_64 ?_
              refine lv_iload_n hC.x hC.b dX5_toldBetween_67 rfl (lv_at hl 3 rfl) ?_
              refine bi_ne (tgt := 88) (a := (σ (104 + n) 1).toInt) (b := ya.toInt) hC.x hC.b rfl rfl dX5_toldBetween_68 (by decide) (fun c_15 => ?_) (fun c_15 => ?_)
              · skip
                refine lv_iinc (v := nI (n + 1)) (lv' := [(4, .int (nI (n + 1))), (5, .ref (G.2.1 (104 + n))), (0, .ref (G.2.1 1)), (1, .int xa), (2, .int ya), (3, .int hr)]) hC.x hC.b dX5_toldBetween_88 hl (k := 5) rfl (nI_succ _).symm (by decide) rfl (fun ls hl => ?_)
                refine lv_goto (tgt := 3) hC.x hC.b dX5_toldBetween_91 (by decide) ?_
                exact ih_3 (n + 1) (by omega) (by first | omega | assumption) (by rw [hi1_3, tbC_s (by omega)]; (repeat (first | rfl | rw [if_pos (by omega)] | rw [if_neg (by omega)]))) _ _ _ hR hS (lv_sub hl [2, 3, 4, 5, 0] rfl)
              · skip
                refine lv_aload hC.x hC.b dX5_toldBetween_71 (lv_at hl 0 rfl) ?_
                refine rget hC hK hR (ct_link hq_10 G _ _) rfl uin_X4 2 (by decide) TF_X5_61 rfl dX5_toldBetween_73 ?_
                refine lv_iload_n hC.x hC.b dX5_toldBetween_76 rfl (lv_at hl 2 rfl) ?_
                refine bi_ne (tgt := 88) (a := (σ (104 + n) 2).toInt) (b := xa.toInt) hC.x hC.b rfl rfl dX5_toldBetween_77 (by decide) (fun c_16 => ?_) (fun c_16 => ?_)
                · skip
                  refine lv_iinc (v := nI (n + 1)) (lv' := [(4, .int (nI (n + 1))), (5, .ref (G.2.1 (104 + n))), (0, .ref (G.2.1 1)), (1, .int xa), (2, .int ya), (3, .int hr)]) hC.x hC.b dX5_toldBetween_88 hl (k := 5) rfl (nI_succ _).symm (by decide) rfl (fun ls hl => ?_)
                  refine lv_goto (tgt := 3) hC.x hC.b dX5_toldBetween_91 (by decide) ?_
                  exact ih_3 (n + 1) (by omega) (by first | omega | assumption) (by rw [hi1_3, tbC_s (by omega)]; (repeat (first | rfl | rw [if_pos (by omega)] | rw [if_neg (by omega)]))) _ _ _ hR hS (lv_sub hl [2, 3, 4, 5, 0] rfl)
                · skip
                  refine lv_aload hC.x hC.b dX5_toldBetween_80 (lv_at hl 0 rfl) ?_
                  refine lv_iload_n hC.x hC.b dX5_toldBetween_82 rfl (lv_at hl 4 rfl) ?_
                  refine goip (runV (As := [.int hr]) (rest := []) hC hK hR hl.1 (c_X4_toldAt l hG σ τ n hq_10 hr ) (call_b hC.ts TC_X4_toldAt TN_X4 TM_X5_64 hd_X4_toldAt ⟨Nat.le_of_ble_eq_true rfl, Nat.le_of_ble_eq_true rfl⟩) TI_X4_toldAt TS_X4_toldAt (ct_link hq_10 G _ _) rfl rfl rfl (Nat.le_of_ble_eq_true rfl) dX5_toldBetween_83 ⟨Nat.le_of_ble_eq_true rfl, Nat.le_of_ble_eq_true rfl⟩) hS (fun v_17 H locs w_18 hR hS => ?_)
                  subst w_18
                  refine lv_ineg hC.x hC.b dX5_toldBetween_86 ?_
                  exact reti hC hK hR hS ⟨rfl, (by first | (rw [hi1_3, tbC_s (by omega)]; (repeat (first | rfl | rw [if_pos (by omega)] | rw [if_neg (by omega)])); done) | (exfalso; omega) | ((have e9 : n = 24 := by omega); subst e9; rw [hi1_3]; rfl))⟩ dX5_toldBetween_87
            · skip
              refine lv_aload hC.x hC.b dX5_toldBetween_46 (lv_at hl 0 rfl) ?_
              refine rget hC hK hR (ct_link hq_10 G _ _) rfl uin_X4 2 (by decide) TF_X5_61 rfl dX5_toldBetween_48 ?_
              refine lv_iload_n hC.x hC.b dX5_toldBetween_51 rfl (lv_at hl 3 rfl) ?_
              refine bi_ne (tgt := 62) (a := (σ (104 + n) 2).toInt) (b := ya.toInt) hC.x hC.b rfl rfl dX5_toldBetween_52 (by decide) (fun c_19 => ?_) (fun c_19 => ?_)
              · skip
                refine lv_aload hC.x hC.b dX5_toldBetween_62 (lv_at hl 0 rfl) ?_
                refine rget hC hK hR (ct_link hq_10 G _ _) rfl uin_X4 1 (by decide) TF_X5_57 rfl dX5_toldBetween_64 ?_
                refine lv_iload_n hC.x hC.b dX5_toldBetween_67 rfl (lv_at hl 3 rfl) ?_
                refine bi_ne (tgt := 88) (a := (σ (104 + n) 1).toInt) (b := ya.toInt) hC.x hC.b rfl rfl dX5_toldBetween_68 (by decide) (fun c_20 => ?_) (fun c_20 => ?_)
                · skip
                  refine lv_iinc (v := nI (n + 1)) (lv' := [(4, .int (nI (n + 1))), (5, .ref (G.2.1 (104 + n))), (0, .ref (G.2.1 1)), (1, .int xa), (2, .int ya), (3, .int hr)]) hC.x hC.b dX5_toldBetween_88 hl (k := 5) rfl (nI_succ _).symm (by decide) rfl (fun ls hl => ?_)
                  refine lv_goto (tgt := 3) hC.x hC.b dX5_toldBetween_91 (by decide) ?_
                  exact ih_3 (n + 1) (by omega) (by first | omega | assumption) (by rw [hi1_3, tbC_s (by omega)]; (repeat (first | rfl | rw [if_pos (by omega)] | rw [if_neg (by omega)]))) _ _ _ hR hS (lv_sub hl [2, 3, 4, 5, 0] rfl)
                · skip
                  refine lv_aload hC.x hC.b dX5_toldBetween_71 (lv_at hl 0 rfl) ?_
                  refine rget hC hK hR (ct_link hq_10 G _ _) rfl uin_X4 2 (by decide) TF_X5_61 rfl dX5_toldBetween_73 ?_
                  refine lv_iload_n hC.x hC.b dX5_toldBetween_76 rfl (lv_at hl 2 rfl) ?_
                  refine bi_ne (tgt := 88) (a := (σ (104 + n) 2).toInt) (b := xa.toInt) hC.x hC.b rfl rfl dX5_toldBetween_77 (by decide) (fun c_21 => ?_) (fun c_21 => ?_)
                  · skip
                    refine lv_iinc (v := nI (n + 1)) (lv' := [(4, .int (nI (n + 1))), (5, .ref (G.2.1 (104 + n))), (0, .ref (G.2.1 1)), (1, .int xa), (2, .int ya), (3, .int hr)]) hC.x hC.b dX5_toldBetween_88 hl (k := 5) rfl (nI_succ _).symm (by decide) rfl (fun ls hl => ?_)
                    refine lv_goto (tgt := 3) hC.x hC.b dX5_toldBetween_91 (by decide) ?_
                    exact ih_3 (n + 1) (by omega) (by first | omega | assumption) (by rw [hi1_3, tbC_s (by omega)]; (repeat (first | rfl | rw [if_pos (by omega)] | rw [if_neg (by omega)]))) _ _ _ hR hS (lv_sub hl [2, 3, 4, 5, 0] rfl)
                  · skip
                    refine lv_aload hC.x hC.b dX5_toldBetween_80 (lv_at hl 0 rfl) ?_
                    refine lv_iload_n hC.x hC.b dX5_toldBetween_82 rfl (lv_at hl 4 rfl) ?_
                    refine goip (runV (As := [.int hr]) (rest := []) hC hK hR hl.1 (c_X4_toldAt l hG σ τ n hq_10 hr ) (call_b hC.ts TC_X4_toldAt TN_X4 TM_X5_64 hd_X4_toldAt ⟨Nat.le_of_ble_eq_true rfl, Nat.le_of_ble_eq_true rfl⟩) TI_X4_toldAt TS_X4_toldAt (ct_link hq_10 G _ _) rfl rfl rfl (Nat.le_of_ble_eq_true rfl) dX5_toldBetween_83 ⟨Nat.le_of_ble_eq_true rfl, Nat.le_of_ble_eq_true rfl⟩) hS (fun v_22 H locs w_23 hR hS => ?_)
                    subst w_23
                    refine lv_ineg hC.x hC.b dX5_toldBetween_86 ?_
                    exact reti hC hK hR hS ⟨rfl, (by first | (rw [hi1_3, tbC_s (by omega)]; (repeat (first | rfl | rw [if_pos (by omega)] | rw [if_neg (by omega)])); done) | (exfalso; omega) | ((have e9 : n = 24 := by omega); subst e9; rw [hi1_3]; rfl))⟩ dX5_toldBetween_87
              · skip
                refine lv_aload hC.x hC.b dX5_toldBetween_55 (lv_at hl 0 rfl) ?_
                refine lv_iload_n hC.x hC.b dX5_toldBetween_57 rfl (lv_at hl 4 rfl) ?_
                refine goip (runV (As := [.int hr]) (rest := []) hC hK hR hl.1 (c_X4_toldAt l hG σ τ n hq_10 hr ) (call_b hC.ts TC_X4_toldAt TN_X4 TM_X5_64 hd_X4_toldAt ⟨Nat.le_of_ble_eq_true rfl, Nat.le_of_ble_eq_true rfl⟩) TI_X4_toldAt TS_X4_toldAt (ct_link hq_10 G _ _) rfl rfl rfl (Nat.le_of_ble_eq_true rfl) dX5_toldBetween_58 ⟨Nat.le_of_ble_eq_true rfl, Nat.le_of_ble_eq_true rfl⟩) hS (fun v_24 H locs w_25 hR hS => ?_)
                subst w_25
                exact reti hC hK hR hS ⟨rfl, (by first | (rw [hi1_3, tbC_s (by omega)]; (repeat (first | rfl | rw [if_pos (by omega)] | rw [if_neg (by omega)])); done) | (exfalso; omega) | ((have e9 : n = 24 := by omega); subst e9; rw [hi1_3]; rfl))⟩ dX5_toldBetween_61
          · skip
            refine lv_goto (tgt := 88) hC.x hC.b dX5_toldBetween_34 (by decide) ?_
            refine lv_iinc (v := nI (n + 1)) (lv' := [(4, .int (nI (n + 1))), (5, .ref (G.2.1 (104 + n))), (0, .ref (G.2.1 1)), (1, .int xa), (2, .int ya), (3, .int hr)]) hC.x hC.b dX5_toldBetween_88 hl (k := 5) rfl (nI_succ _).symm (by decide) rfl (fun ls hl => ?_)
            refine lv_goto (tgt := 3) hC.x hC.b dX5_toldBetween_91 (by decide) ?_
            exact ih_3 (n + 1) (by omega) (by first | omega | assumption) (by rw [hi1_3, tbC_s (by omega)]; (repeat (first | rfl | rw [if_pos (by omega)] | rw [if_neg (by omega)]))) _ _ _ hR hS (lv_sub hl [2, 3, 4, 5, 0] rfl)
  exact L_3 _ 0 (Nat.lt_succ_self _) (by first | omega | assumption) (by rfl) _ _ _ hR hS (lv_sub hl [1, 2, 3, 4, 0] rfl)

abbrev po2_X9_ring (σ : SI) (τ : SL) (xa : Int32) (ya : Int32) (za : Int32) (hr : Int32) : Int32 → SI × SL → Prop := fun v u => u = (σ, τ) ∧ (((v = (rgC σ xa ya za hr))))
set_option maxRecDepth 100000 in
set_option maxHeartbeats 4000000 in
theorem c2_X9_ring (l : Launch) {G : Gx} {A : Nat → Prop} (hG : GOk G A) (σ : SI) (τ : SL) (xa : Int32) (ya : Int32) (za : Int32) (hr : Int32) : MI l G A 3 yX9_ring cX9_ring 8 (some .int) [.ref (G.2.1 0), .int xa, .int ya, .int za, .int hr] (σ, τ) (po2_X9_ring σ τ xa ya za hr) := by
  refine met_of (own := RX9) (by decide +kernel) rfl [(0, .ref (G.2.1 0)), (1, .int xa), (2, .int ya), (3, .int za), (4, .int hr)] rfl (Nat.le_of_ble_eq_true rfl) ?_
  intro p e s m args below meth c ls hC hK hR hl
  have hS : va_S A s.heap s.heap [] := va_S.rf
  refine lv_aload_n hC.x hC.b dX9_ring_0 rfl (lv_at hl 0 rfl) ?_
  refine lv_iload hC.x hC.b dX9_ring_1 (lv_at hl 4 rfl) ?_
  refine goip (runV (As := [.int hr]) (rest := []) hC hK hR hl.1 (c_X9_hasCome l hG σ τ hr ) (call_b hC.ts TC_X9_hasCome TN_X9 TM_X9_142 hd_X9_hasCome ⟨Nat.le_of_ble_eq_true rfl, Nat.le_of_ble_eq_true rfl⟩) TI_X9_hasCome TS_X9_hasCome (ct_bench G _ _) rfl rfl rfl (Nat.le_of_ble_eq_true rfl) dX9_ring_3 ⟨Nat.le_of_ble_eq_true rfl, Nat.le_of_ble_eq_true rfl⟩) hS (fun v_1 H locs w_2 hR hS => ?_)
  rcases w_2 with ⟨rfl, f_3, f_4⟩ | ⟨rfl, f_5⟩
  · skip
    refine bz_ne (tgt := 12) (a := 1) (b := 0) hC.x hC.b rfl rfl dX9_ring_6 (by decide) (fun _ => ?_) (fun c_6 => absurd c_6 (by decide))
    refine lv_aload_n hC.x hC.b dX9_ring_12 rfl (lv_at hl 0 rfl) ?_
    refine rget hC hK hR (ct_bench G _ _) rfl uin_X9 0 (by decide) TF_X9_10 rfl dX9_ring_13 ?_
    refine lv_iload_n hC.x hC.b dX9_ring_16 rfl (lv_at hl 1 rfl) ?_
    refine lv_iload_n hC.x hC.b dX9_ring_17 rfl (lv_at hl 2 rfl) ?_
    refine lv_iload hC.x hC.b dX9_ring_18 (lv_at hl 4 rfl) ?_
    refine goip (runV (As := [.int xa, .int ya, .int hr]) (rest := []) hC hK hR hl.1 (c2_X5_toldBetween l hG σ τ xa ya hr ) (call_b hC.ts TC_X5_toldBetween TN_X5 TM_X9_266 hd_X5_toldBetween ⟨Nat.le_of_ble_eq_true rfl, Nat.le_of_ble_eq_true rfl⟩) TI_X5_toldBetween TS_X5_toldBetween (ct_shelf G _ _) rfl rfl rfl (Nat.le_of_ble_eq_true rfl) dX9_ring_20 ⟨Nat.le_of_ble_eq_true rfl, Nat.le_of_ble_eq_true rfl⟩) hS (fun v_7 H locs w_8 hR hS => ?_)
    subst w_8
    refine lv_istore (lv' := [(5, .int (tbC σ xa ya hr 24)), (0, .ref (G.2.1 0)), (1, .int xa), (2, .int ya), (3, .int za), (4, .int hr)]) hC.x hC.b dX9_ring_23 hl (by decide) rfl (fun ls hl => ?_)
    refine lv_aload_n hC.x hC.b dX9_ring_25 rfl (lv_at hl 1 rfl) ?_
    refine rget hC hK hR (ct_bench G _ _) rfl uin_X9 0 (by decide) TF_X9_10 rfl dX9_ring_26 ?_
    refine lv_iload_n hC.x hC.b dX9_ring_29 rfl (lv_at hl 3 rfl) ?_
    refine lv_iload_n hC.x hC.b dX9_ring_30 rfl (lv_at hl 4 rfl) ?_
    refine lv_iload hC.x hC.b dX9_ring_31 (lv_at hl 5 rfl) ?_
    refine goip (runV (As := [.int ya, .int za, .int hr]) (rest := []) hC hK hR hl.1 (c2_X5_toldBetween l hG σ τ ya za hr ) (call_b hC.ts TC_X5_toldBetween TN_X5 TM_X9_266 hd_X5_toldBetween ⟨Nat.le_of_ble_eq_true rfl, Nat.le_of_ble_eq_true rfl⟩) TI_X5_toldBetween TS_X5_toldBetween (ct_shelf G _ _) rfl rfl rfl (Nat.le_of_ble_eq_true rfl) dX9_ring_33 ⟨Nat.le_of_ble_eq_true rfl, Nat.le_of_ble_eq_true rfl⟩) hS (fun v_9 H locs w_10 hR hS => ?_)
    subst w_10
    refine lv_istore (lv' := [(6, .int (tbC σ ya za hr 24)), (5, .int (tbC σ xa ya hr 24)), (0, .ref (G.2.1 0)), (1, .int xa), (2, .int ya), (3, .int za), (4, .int hr)]) hC.x hC.b dX9_ring_36 hl (by decide) rfl (fun ls hl => ?_)
    refine lv_aload_n hC.x hC.b dX9_ring_38 rfl (lv_at hl 2 rfl) ?_
    refine rget hC hK hR (ct_bench G _ _) rfl uin_X9 0 (by decide) TF_X9_10 rfl dX9_ring_39 ?_
    refine lv_iload_n hC.x hC.b dX9_ring_42 rfl (lv_at hl 5 rfl) ?_
    refine lv_iload_n hC.x hC.b dX9_ring_43 rfl (lv_at hl 3 rfl) ?_
    refine lv_iload hC.x hC.b dX9_ring_44 (lv_at hl 6 rfl) ?_
    refine goip (runV (As := [.int za, .int xa, .int hr]) (rest := []) hC hK hR hl.1 (c2_X5_toldBetween l hG σ τ za xa hr ) (call_b hC.ts TC_X5_toldBetween TN_X5 TM_X9_266 hd_X5_toldBetween ⟨Nat.le_of_ble_eq_true rfl, Nat.le_of_ble_eq_true rfl⟩) TI_X5_toldBetween TS_X5_toldBetween (ct_shelf G _ _) rfl rfl rfl (Nat.le_of_ble_eq_true rfl) dX9_ring_46 ⟨Nat.le_of_ble_eq_true rfl, Nat.le_of_ble_eq_true rfl⟩) hS (fun v_11 H locs w_12 hR hS => ?_)
    subst w_12
    refine lv_istore (lv' := [(7, .int (tbC σ za xa hr 24)), (6, .int (tbC σ ya za hr 24)), (5, .int (tbC σ xa ya hr 24)), (0, .ref (G.2.1 0)), (1, .int xa), (2, .int ya), (3, .int za), (4, .int hr)]) hC.x hC.b dX9_ring_49 hl (by decide) rfl (fun ls hl => ?_)
    refine lv_iload hC.x hC.b dX9_ring_51 (lv_at hl 2 rfl) ?_
    refine lv_ldc hC.x hC.b hC.ow (hC.ts _ TK_X9_148) dX9_ring_53 ?_
    refine bi_eq (tgt := 72) (a := (tbC σ xa ya hr 24).toInt) (b := 1000000) hC.x hC.b rfl rfl dX9_ring_55 (by decide) (fun c_13 => ?_) (fun c_13 => ?_)
    · skip
      refine lv_ldc hC.x hC.b hC.ow (hC.ts _ TK_X9_148) dX9_ring_72 ?_
      refine lv_goto (tgt := 85) hC.x hC.b dX9_ring_74 (by decide) ?_
      exact reti hC hK hR hS ⟨rfl, (by first | (unfold rgC; (repeat (first | rfl | rw [if_pos (by omega)] | rw [if_neg (by omega)])); done) | (exfalso; omega))⟩ dX9_ring_85
    · skip
      refine lv_iload hC.x hC.b dX9_ring_58 (lv_at hl 1 rfl) ?_
      refine lv_ldc hC.x hC.b hC.ow (hC.ts _ TK_X9_148) dX9_ring_60 ?_
      refine bi_eq (tgt := 72) (a := (tbC σ ya za hr 24).toInt) (b := 1000000) hC.x hC.b rfl rfl dX9_ring_62 (by decide) (fun c_14 => ?_) (fun c_14 => ?_)
      · skip
        refine lv_ldc hC.x hC.b hC.ow (hC.ts _ TK_X9_148) dX9_ring_72 ?_
        refine lv_goto (tgt := 85) hC.x hC.b dX9_ring_74 (by decide) ?_
        exact reti hC hK hR hS ⟨rfl, (by first | (unfold rgC; (repeat (first | rfl | rw [if_pos (by omega)] | rw [if_neg (by omega)])); done) | (exfalso; omega))⟩ dX9_ring_85
      · skip
        refine lv_iload hC.x hC.b dX9_ring_65 (lv_at hl 0 rfl) ?_
        refine lv_ldc hC.x hC.b hC.ow (hC.ts _ TK_X9_148) dX9_ring_67 ?_
        refine bi_ne (tgt := 77) (a := (tbC σ za xa hr 24).toInt) (b := 1000000) hC.x hC.b rfl rfl dX9_ring_69 (by decide) (fun c_15 => ?_) (fun c_15 => ?_)
        · skip
          refine lv_iload hC.x hC.b dX9_ring_77 (lv_at hl 2 rfl) ?_
          refine lv_iload hC.x hC.b dX9_ring_79 (lv_at hl 1 rfl) ?_
          refine lv_iadd hC.x hC.b dX9_ring_81 ?_
          refine lv_iload hC.x hC.b dX9_ring_82 (lv_at hl 0 rfl) ?_
          refine lv_iadd hC.x hC.b dX9_ring_84 ?_
          exact reti hC hK hR hS ⟨rfl, (by first | (unfold rgC; (repeat (first | rfl | rw [if_pos (by omega)] | rw [if_neg (by omega)])); done) | (exfalso; omega))⟩ dX9_ring_85
        · skip
          refine lv_ldc hC.x hC.b hC.ow (hC.ts _ TK_X9_148) dX9_ring_72 ?_
          refine lv_goto (tgt := 85) hC.x hC.b dX9_ring_74 (by decide) ?_
          exact reti hC hK hR hS ⟨rfl, (by first | (unfold rgC; (repeat (first | rfl | rw [if_pos (by omega)] | rw [if_neg (by omega)])); done) | (exfalso; omega))⟩ dX9_ring_85
  · skip
    refine bz_ne (tgt := 12) (a := 0) (b := 0) hC.x hC.b rfl rfl dX9_ring_6 (by decide) (fun c_16 => absurd c_16 (by decide)) (fun _ => ?_)
    refine lv_ldc hC.x hC.b hC.ow (hC.ts _ TK_X9_148) dX9_ring_9 ?_
    exact reti hC hK hR hS ⟨rfl, (by first | (unfold rgC; (repeat (first | rfl | rw [if_pos (by omega)] | rw [if_neg (by omega)])); done) | (exfalso; omega))⟩ dX9_ring_11

abbrev po2_X10_direct (σ : SI) (τ : SL) (xa : Int32) (ya : Int32) (hr : Int32) (hq : Nat) : Int32 → SI × SL → Prop := fun v u => u = (σ, τ) ∧ (((v = (dbM σ xa ya hr hq 24))))
set_option maxRecDepth 100000 in
set_option maxHeartbeats 4000000 in
theorem c2_X10_direct (l : Launch) {G : Gx} {A : Nat → Prop} (hG : GOk G A) (σ : SI) (τ : SL) (xa : Int32) (ya : Int32) (hr : Int32) (hq : Nat) (hp_hq : hr.toInt.toNat = hq) (hnw : 0 ≤ (σ 35 29).toInt ∧ (σ 35 29).toInt ≤ 200) : MI l G A 2 yX10_direct cX10_direct 5 (some .int) [.ref (G.2.1 35), .int xa, .int ya, .int hr] (σ, τ) (po2_X10_direct σ τ xa ya hr hq) := by
  refine met_of (own := RX10) (by decide +kernel) rfl [(0, .ref (G.2.1 35)), (1, .int xa), (2, .int ya), (3, .int hr)] rfl (Nat.le_of_ble_eq_true rfl) ?_
  intro p e s m args below meth c ls hC hK hR hl
  have hS : va_S A s.heap s.heap [] := va_S.rf
  refine lv_iconst (v := 0) hC.x hC.b dX10_direct_0 (by decide) ?_
  refine lv_istore (lv' := [(4, .int (0 : Int32)), (0, .ref (G.2.1 35)), (1, .int xa), (2, .int ya), (3, .int hr)]) hC.x hC.b dX10_direct_1 hl (by decide) rfl (fun ls hl => ?_)
  have L_3 : ∀ (F : Nat) (n : Nat), (24 - n) < F → (n ≤ 24) → (dbM σ xa ya hr hq 24 = dbM σ xa ya hr hq (24 - n)) → ∀ (H : Heap) (locs : List Loc) (ls : Array Slot), RepH G σ τ H → va_S A s.heap H locs → lv_has ls 5 [(0, .ref (G.2.1 35)), (1, .int xa), (2, .int ya), (3, .int hr), (4, .int (nI n))] → W p l e (rmD 2) s m args below meth c H locs 0 0 (MQ below (va_Qi (po2_X10_direct σ τ xa ya hr hq) (BU G) A) args s 0 0 A) (F0 m 3 ls []) := by
    intro F
    induction F with
    | zero => intro n hm; exact absurd hm (Nat.not_lt_zero _)
    | succ F ih_3 =>
      intro n hm_3 hi0_3 hi1_3 H locs ls hR hS hl
      have hnI := nI_T n (by omega)
      refine lv_iload hC.x hC.b dX10_direct_3 (lv_at hl 4 rfl) ?_
      refine lv_bipush (v := 24) hC.x hC.b dX10_direct_5 (by decide) ?_
      refine bi_ge (tgt := 81) (a := (n : Int)) (b := 24) hC.x hC.b (nI_T n (by omega)) rfl dX10_direct_7 (by decide) (fun c_1 => ?_) (fun c_1 => ?_)
      · skip
        refine lv_ldc hC.x hC.b hC.ow (hC.ts _ TK_X10_151) dX10_direct_81 ?_
        exact reti hC hK hR hS ⟨rfl, (by first | (rw [hi1_3, dbM_s (by omega)]; (repeat (first | rfl | rw [if_pos (by omega)] | rw [if_neg (by omega)])); done) | (exfalso; omega) | ((have e9 : n = 24 := by omega); subst e9; rw [hi1_3]; rfl))⟩ dX10_direct_83
      · skip
        refine lv_aload_n hC.x hC.b dX10_direct_10 rfl (lv_at hl 0 rfl) ?_
        refine lv_iload hC.x hC.b dX10_direct_11 (lv_at hl 4 rfl) ?_
        have av_2 : (nI n).toInt = (n : Int) := (nI_T n (by omega))
        refine goip (runV (As := [.int (nI n)]) (rest := []) hC hK hR hl.1 (c_X10_isLink l hG σ τ (nI n) n (by first | rfl | (rw [show (nI n).toInt = (n : Int) from (nI_T n (by omega))]; done) | (rw [show (nI n).toInt = (n : Int) from (nI_T n (by omega))]; exact (Int.toNat_natCast _))) ) (call_b hC.ts TC_X10_isLink TN_X10 TM_X10_148 hd_X10_isLink ⟨Nat.le_of_ble_eq_true rfl, Nat.le_of_ble_eq_true rfl⟩) TI_X10_isLink TS_X10_isLink (ct_model G _ _) rfl rfl rfl (Nat.le_of_ble_eq_true rfl) dX10_direct_13 ⟨Nat.le_of_ble_eq_true rfl, Nat.le_of_ble_eq_true rfl⟩) hS (fun v_3 H locs w_4 hR hS => ?_)
        rcases w_4 with ⟨rfl, f_5, f_6⟩ | ⟨rfl, f_7⟩
        · skip
          refine bz_eq (tgt := 75) (a := 1) (b := 0) hC.x hC.b rfl rfl dX10_direct_16 (by decide) (fun c_8 => absurd c_8 (by decide)) (fun _ => ?_)
          refine lv_aload_n hC.x hC.b dX10_direct_19 rfl (lv_at hl 0 rfl) ?_
          refine lv_iload hC.x hC.b dX10_direct_20 (lv_at hl 4 rfl) ?_
          refine lv_iload_n hC.x hC.b dX10_direct_22 rfl (lv_at hl 1 rfl) ?_
          have av_9 : (nI n).toInt = (n : Int) := (nI_T n (by omega))
          refine goip (runV (As := [.int (nI n), .int xa]) (rest := []) hC hK hR hl.1 (c_X10_other l hG σ τ (nI n) n (by first | rfl | (rw [show (nI n).toInt = (n : Int) from (nI_T n (by omega))]; done) | (rw [show (nI n).toInt = (n : Int) from (nI_T n (by omega))]; exact (Int.toNat_natCast _))) xa (by omega)) (call_b hC.ts TC_X10_other TN_X10 TM_X10_161 hd_X10_other ⟨Nat.le_of_ble_eq_true rfl, Nat.le_of_ble_eq_true rfl⟩) TI_X10_other TS_X10_other (ct_model G _ _) rfl rfl rfl (Nat.le_of_ble_eq_true rfl) dX10_direct_23 ⟨Nat.le_of_ble_eq_true rfl, Nat.le_of_ble_eq_true rfl⟩) hS (fun v_10 H locs w_11 hR hS => ?_)
          subst w_11
          refine lv_iload_n hC.x hC.b dX10_direct_26 rfl (lv_at hl 2 rfl) ?_
          refine bi_ne (tgt := 75) (a := (otherM σ n xa).toInt) (b := ya.toInt) hC.x hC.b rfl rfl dX10_direct_27 (by decide) (fun c_12 => ?_) (fun c_12 => ?_)
          · skip
            refine lv_iinc (v := nI (n + 1)) (lv' := [(4, .int (nI (n + 1))), (0, .ref (G.2.1 35)), (1, .int xa), (2, .int ya), (3, .int hr)]) hC.x hC.b dX10_direct_75 hl (k := 4) rfl (nI_succ _).symm (by decide) rfl (fun ls hl => ?_)
            refine lv_goto (tgt := 3) hC.x hC.b dX10_direct_78 (by decide) ?_
            exact ih_3 (n + 1) (by omega) (by first | omega | assumption) (by rw [hi1_3, dbM_s (by omega)]; (repeat (first | rfl | rw [if_pos (by omega)] | rw [if_neg (by omega)]))) _ _ _ hR hS (lv_sub hl [1, 2, 3, 4, 0] rfl)
          · skip
            refine lv_aload_n hC.x hC.b dX10_direct_30 rfl (lv_at hl 0 rfl) ?_
            refine lv_iload hC.x hC.b dX10_direct_31 (lv_at hl 4 rfl) ?_
            refine lv_iload_n hC.x hC.b dX10_direct_33 rfl (lv_at hl 3 rfl) ?_
            have av_13 : (nI n).toInt = (n : Int) := (nI_T n (by omega))
            refine goip (runV (As := [.int (nI n), .int hr]) (rest := []) hC hK hR hl.1 (c_X10_told l hG σ τ (nI n) n (by first | rfl | (rw [show (nI n).toInt = (n : Int) from (nI_T n (by omega))]; done) | (rw [show (nI n).toInt = (n : Int) from (nI_T n (by omega))]; exact (Int.toNat_natCast _))) hr hq (by first | rfl | (rw [show hr.toInt = hr.toInt from rfl]; done) | (rw [show hr.toInt = hr.toInt from rfl]; exact hp_hq)) (by first | assumption | omega) (by omega)) (call_b hC.ts TC_X10_told TN_X10 TM_X10_152 hd_X10_told ⟨Nat.le_of_ble_eq_true rfl, Nat.le_of_ble_eq_true rfl⟩) TI_X10_told TS_X10_told (ct_model G _ _) rfl rfl rfl (Nat.le_of_ble_eq_true rfl) dX10_direct_34 ⟨Nat.le_of_ble_eq_true rfl, Nat.le_of_ble_eq_true rfl⟩) hS (fun v_14 H locs w_15 hR hS => ?_)
            subst w_15
            refine lv_ldc hC.x hC.b hC.ow (hC.ts _ TK_X10_151) dX10_direct_37 ?_
            refine bi_ne (tgt := 45) (a := (toldM σ n hr hq).toInt) (b := 1000000) hC.x hC.b rfl rfl dX10_direct_39 (by decide) (fun c_16 => ?_) (fun c_16 => ?_)
            · skip
              refine lv_aload_n hC.x hC.b dX10_direct_45 rfl (lv_at hl 0 rfl) ?_
              refine rget hC hK hR (ct_model G _ _) rfl uin_X10 1 (by decide) TF_X10_13 rfl dX10_direct_46 ?_
              refine lv_iload hC.x hC.b dX10_direct_49 (lv_at hl 4 rfl) ?_
              refine ald hC hK hR (ct_m_one G _ _) (nI_T n (by omega)) (by omega) (by omega) (Int.toNat_natCast _) dX10_direct_51 ?_
              refine lv_iload_n hC.x hC.b dX10_direct_52 rfl (lv_at hl 1 rfl) ?_
              refine bi_ne (tgt := 66) (a := (σ 37 n).toInt) (b := xa.toInt) hC.x hC.b rfl rfl dX10_direct_53 (by decide) (fun c_17 => ?_) (fun c_17 => ?_)
              · skip
                refine lv_aload_n hC.x hC.b dX10_direct_66 rfl (lv_at hl 0 rfl) ?_
                refine lv_iload hC.x hC.b dX10_direct_67 (lv_at hl 4 rfl) ?_
                refine lv_iload_n hC.x hC.b dX10_direct_69 rfl (lv_at hl 3 rfl) ?_
                have av_18 : (nI n).toInt = (n : Int) := (nI_T n (by omega))
                refine goip (runV (As := [.int (nI n), .int hr]) (rest := []) hC hK hR hl.1 (c_X10_told l hG σ τ (nI n) n (by first | rfl | (rw [show (nI n).toInt = (n : Int) from (nI_T n (by omega))]; done) | (rw [show (nI n).toInt = (n : Int) from (nI_T n (by omega))]; exact (Int.toNat_natCast _))) hr hq (by first | rfl | (rw [show hr.toInt = hr.toInt from rfl]; done) | (rw [show hr.toInt = hr.toInt from rfl]; exact hp_hq)) (by first | assumption | omega) (by omega)) (call_b hC.ts TC_X10_told TN_X10 TM_X10_152 hd_X10_told ⟨Nat.le_of_ble_eq_true rfl, Nat.le_of_ble_eq_true rfl⟩) TI_X10_told TS_X10_told (ct_model G _ _) rfl rfl rfl (Nat.le_of_ble_eq_true rfl) dX10_direct_70 ⟨Nat.le_of_ble_eq_true rfl, Nat.le_of_ble_eq_true rfl⟩) hS (fun v_19 H locs w_20 hR hS => ?_)
                subst w_20
                refine lv_ineg hC.x hC.b dX10_direct_73 ?_
                exact reti hC hK hR hS ⟨rfl, (by first | (rw [hi1_3, dbM_s (by omega)]; (repeat (first | rfl | rw [if_pos (by omega)] | rw [if_neg (by omega)])); done) | (exfalso; omega) | ((have e9 : n = 24 := by omega); subst e9; rw [hi1_3]; rfl))⟩ dX10_direct_74
              · skip
                refine lv_aload_n hC.x hC.b dX10_direct_56 rfl (lv_at hl 0 rfl) ?_
                refine lv_iload hC.x hC.b dX10_direct_57 (lv_at hl 4 rfl) ?_
                refine lv_iload_n hC.x hC.b dX10_direct_59 rfl (lv_at hl 3 rfl) ?_
                have av_21 : (nI n).toInt = (n : Int) := (nI_T n (by omega))
                refine goip (runV (As := [.int (nI n), .int hr]) (rest := []) hC hK hR hl.1 (c_X10_told l hG σ τ (nI n) n (by first | rfl | (rw [show (nI n).toInt = (n : Int) from (nI_T n (by omega))]; done) | (rw [show (nI n).toInt = (n : Int) from (nI_T n (by omega))]; exact (Int.toNat_natCast _))) hr hq (by first | rfl | (rw [show hr.toInt = hr.toInt from rfl]; done) | (rw [show hr.toInt = hr.toInt from rfl]; exact hp_hq)) (by first | assumption | omega) (by omega)) (call_b hC.ts TC_X10_told TN_X10 TM_X10_152 hd_X10_told ⟨Nat.le_of_ble_eq_true rfl, Nat.le_of_ble_eq_true rfl⟩) TI_X10_told TS_X10_told (ct_model G _ _) rfl rfl rfl (Nat.le_of_ble_eq_true rfl) dX10_direct_60 ⟨Nat.le_of_ble_eq_true rfl, Nat.le_of_ble_eq_true rfl⟩) hS (fun v_22 H locs w_23 hR hS => ?_)
                subst w_23
                refine lv_goto (tgt := 74) hC.x hC.b dX10_direct_63 (by decide) ?_
                exact reti hC hK hR hS ⟨rfl, (by first | (rw [hi1_3, dbM_s (by omega)]; (repeat (first | rfl | rw [if_pos (by omega)] | rw [if_neg (by omega)])); done) | (exfalso; omega) | ((have e9 : n = 24 := by omega); subst e9; rw [hi1_3]; rfl))⟩ dX10_direct_74
            · skip
              refine lv_goto (tgt := 75) hC.x hC.b dX10_direct_42 (by decide) ?_
              refine lv_iinc (v := nI (n + 1)) (lv' := [(4, .int (nI (n + 1))), (0, .ref (G.2.1 35)), (1, .int xa), (2, .int ya), (3, .int hr)]) hC.x hC.b dX10_direct_75 hl (k := 4) rfl (nI_succ _).symm (by decide) rfl (fun ls hl => ?_)
              refine lv_goto (tgt := 3) hC.x hC.b dX10_direct_78 (by decide) ?_
              exact ih_3 (n + 1) (by omega) (by first | omega | assumption) (by rw [hi1_3, dbM_s (by omega)]; (repeat (first | rfl | rw [if_pos (by omega)] | rw [if_neg (by omega)]))) _ _ _ hR hS (lv_sub hl [1, 2, 3, 4, 0] rfl)
        · skip
          refine bz_eq (tgt := 75) (a := 0) (b := 0) hC.x hC.b rfl rfl dX10_direct_16 (by decide) (fun _ => ?_) (fun c_24 => absurd c_24 (by decide))
          refine lv_iinc (v := nI (n + 1)) (lv' := [(4, .int (nI (n + 1))), (0, .ref (G.2.1 35)), (1, .int xa), (2, .int ya), (3, .int hr)]) hC.x hC.b dX10_direct_75 hl (k := 4) rfl (nI_succ _).symm (by decide) rfl (fun ls hl => ?_)
          refine lv_goto (tgt := 3) hC.x hC.b dX10_direct_78 (by decide) ?_
          exact ih_3 (n + 1) (by omega) (by first | omega | assumption) (by rw [hi1_3, dbM_s (by omega)]; (repeat (first | rfl | rw [if_pos (by omega)] | rw [if_neg (by omega)]))) _ _ _ hR hS (lv_sub hl [1, 2, 3, 4, 0] rfl)
  exact L_3 _ 0 (Nat.lt_succ_self _) (by first | omega | assumption) (by rfl) _ _ _ hR hS (lv_sub hl [1, 2, 3, 4, 0] rfl)

abbrev po2_X10_ring (σ : SI) (τ : SL) (xa : Int32) (xq : Nat) (ya : Int32) (yq : Nat) (za : Int32) (zq : Nat) (hr : Int32) (hq : Nat) : Int32 → SI × SL → Prop := fun v u => u = (σ, τ) ∧ (((v = (rgM σ xa xq ya yq za zq hr hq))))
set_option maxRecDepth 100000 in
set_option maxHeartbeats 4000000 in
theorem c2_X10_ring (l : Launch) {G : Gx} {A : Nat → Prop} (hG : GOk G A) (σ : SI) (τ : SL) (xa : Int32) (xq : Nat) (hp_xq : xa.toInt.toNat = xq) (ya : Int32) (yq : Nat) (hp_yq : ya.toInt.toNat = yq) (za : Int32) (zq : Nat) (hp_zq : za.toInt.toNat = zq) (hr : Int32) (hq : Nat) (hp_hq : hr.toInt.toNat = hq) (hnw : 0 ≤ (σ 35 29).toInt ∧ (σ 35 29).toInt ≤ 200) : MI l G A 3 yX10_ring cX10_ring 8 (some .int) [.ref (G.2.1 35), .int xa, .int ya, .int za, .int hr] (σ, τ) (po2_X10_ring σ τ xa xq ya yq za zq hr hq) := by
  refine met_of (own := RX10) (by decide +kernel) rfl [(0, .ref (G.2.1 35)), (1, .int xa), (2, .int ya), (3, .int za), (4, .int hr)] rfl (Nat.le_of_ble_eq_true rfl) ?_
  intro p e s m args below meth c ls hC hK hR hl
  have hS : va_S A s.heap s.heap [] := va_S.rf
  refine lv_aload_n hC.x hC.b dX10_ring_0 rfl (lv_at hl 0 rfl) ?_
  refine lv_iload_n hC.x hC.b dX10_ring_1 rfl (lv_at hl 1 rfl) ?_
  refine goip (runV (As := [.int xa]) (rest := []) hC hK hR hl.1 (c_X10_isClock l hG σ τ xa xq (by first | rfl | (rw [show xa.toInt = xa.toInt from rfl]; done) | (rw [show xa.toInt = xa.toInt from rfl]; exact hp_xq)) ) (call_b hC.ts TC_X10_isClock TN_X10 TM_X10_133 hd_X10_isClock ⟨Nat.le_of_ble_eq_true rfl, Nat.le_of_ble_eq_true rfl⟩) TI_X10_isClock TS_X10_isClock (ct_model G _ _) rfl rfl rfl (Nat.le_of_ble_eq_true rfl) dX10_ring_2 ⟨Nat.le_of_ble_eq_true rfl, Nat.le_of_ble_eq_true rfl⟩) hS (fun v_1 H locs w_2 hR hS => ?_)
  rcases w_2 with ⟨rfl, f_3, f_4⟩ | ⟨rfl, f_5⟩
  · skip
    refine bz_eq (tgt := 52) (a := 1) (b := 0) hC.x hC.b rfl rfl dX10_ring_5 (by decide) (fun c_6 => absurd c_6 (by decide)) (fun _ => ?_)
    refine lv_aload_n hC.x hC.b dX10_ring_8 rfl (lv_at hl 0 rfl) ?_
    refine lv_iload_n hC.x hC.b dX10_ring_9 rfl (lv_at hl 2 rfl) ?_
    refine goip (runV (As := [.int ya]) (rest := []) hC hK hR hl.1 (c_X10_isClock l hG σ τ ya yq (by first | rfl | (rw [show ya.toInt = ya.toInt from rfl]; done) | (rw [show ya.toInt = ya.toInt from rfl]; exact hp_yq)) ) (call_b hC.ts TC_X10_isClock TN_X10 TM_X10_133 hd_X10_isClock ⟨Nat.le_of_ble_eq_true rfl, Nat.le_of_ble_eq_true rfl⟩) TI_X10_isClock TS_X10_isClock (ct_model G _ _) rfl rfl rfl (Nat.le_of_ble_eq_true rfl) dX10_ring_10 ⟨Nat.le_of_ble_eq_true rfl, Nat.le_of_ble_eq_true rfl⟩) hS (fun v_7 H locs w_8 hR hS => ?_)
    rcases w_8 with ⟨rfl, f_9, f_10⟩ | ⟨rfl, f_11⟩
    · skip
      refine bz_eq (tgt := 52) (a := 1) (b := 0) hC.x hC.b rfl rfl dX10_ring_13 (by decide) (fun c_12 => absurd c_12 (by decide)) (fun _ => ?_)
      refine lv_aload_n hC.x hC.b dX10_ring_16 rfl (lv_at hl 0 rfl) ?_
      refine lv_iload_n hC.x hC.b dX10_ring_17 rfl (lv_at hl 3 rfl) ?_
      refine goip (runV (As := [.int za]) (rest := []) hC hK hR hl.1 (c_X10_isClock l hG σ τ za zq (by first | rfl | (rw [show za.toInt = za.toInt from rfl]; done) | (rw [show za.toInt = za.toInt from rfl]; exact hp_zq)) ) (call_b hC.ts TC_X10_isClock TN_X10 TM_X10_133 hd_X10_isClock ⟨Nat.le_of_ble_eq_true rfl, Nat.le_of_ble_eq_true rfl⟩) TI_X10_isClock TS_X10_isClock (ct_model G _ _) rfl rfl rfl (Nat.le_of_ble_eq_true rfl) dX10_ring_18 ⟨Nat.le_of_ble_eq_true rfl, Nat.le_of_ble_eq_true rfl⟩) hS (fun v_13 H locs w_14 hR hS => ?_)
      rcases w_14 with ⟨rfl, f_15, f_16⟩ | ⟨rfl, f_17⟩
      · skip
        refine bz_eq (tgt := 52) (a := 1) (b := 0) hC.x hC.b rfl rfl dX10_ring_21 (by decide) (fun c_18 => absurd c_18 (by decide)) (fun _ => ?_)
        refine lv_iload_n hC.x hC.b dX10_ring_24 rfl (lv_at hl 1 rfl) ?_
        refine lv_iload_n hC.x hC.b dX10_ring_25 rfl (lv_at hl 2 rfl) ?_
        refine bi_eq (tgt := 52) (a := xa.toInt) (b := ya.toInt) hC.x hC.b rfl rfl dX10_ring_26 (by decide) (fun c_19 => ?_) (fun c_19 => ?_)
        · skip
          refine lv_ldc hC.x hC.b hC.ow (hC.ts _ TK_X10_151) dX10_ring_52 ?_
          exact reti hC hK hR hS ⟨rfl, (by first | (unfold rgM; (repeat (first | rfl | rw [if_pos (by omega)] | rw [if_neg (by omega)])); done) | (exfalso; omega))⟩ dX10_ring_54
        · skip
          refine lv_iload_n hC.x hC.b dX10_ring_29 rfl (lv_at hl 2 rfl) ?_
          refine lv_iload_n hC.x hC.b dX10_ring_30 rfl (lv_at hl 3 rfl) ?_
          refine bi_eq (tgt := 52) (a := ya.toInt) (b := za.toInt) hC.x hC.b rfl rfl dX10_ring_31 (by decide) (fun c_20 => ?_) (fun c_20 => ?_)
          · skip
            refine lv_ldc hC.x hC.b hC.ow (hC.ts _ TK_X10_151) dX10_ring_52 ?_
            exact reti hC hK hR hS ⟨rfl, (by first | (unfold rgM; (repeat (first | rfl | rw [if_pos (by omega)] | rw [if_neg (by omega)])); done) | (exfalso; omega))⟩ dX10_ring_54
          · skip
            refine lv_iload_n hC.x hC.b dX10_ring_34 rfl (lv_at hl 1 rfl) ?_
            refine lv_iload_n hC.x hC.b dX10_ring_35 rfl (lv_at hl 3 rfl) ?_
            refine bi_eq (tgt := 52) (a := xa.toInt) (b := za.toInt) hC.x hC.b rfl rfl dX10_ring_36 (by decide) (fun c_21 => ?_) (fun c_21 => ?_)
            · skip
              refine lv_ldc hC.x hC.b hC.ow (hC.ts _ TK_X10_151) dX10_ring_52 ?_
              exact reti hC hK hR hS ⟨rfl, (by first | (unfold rgM; (repeat (first | rfl | rw [if_pos (by omega)] | rw [if_neg (by omega)])); done) | (exfalso; omega))⟩ dX10_ring_54
            · skip
              refine lv_iload hC.x hC.b dX10_ring_39 (lv_at hl 4 rfl) ?_
              refine lv_iconst (v := 0) hC.x hC.b dX10_ring_41 (by decide) ?_
              refine lv_aload_n hC.x hC.b dX10_ring_42 rfl (lv_at hl 0 rfl) ?_
              refine rget hC hK hR (ct_model G _ _) rfl uin_X10 29 (by decide) TF_X10_137 rfl dX10_ring_43 ?_
              have av_22 : (0 : Int32).toInt = 0 := by decide
              refine goip (runS (As := [.int hr, .int (0 : Int32), .int (σ 35 29)]) (rest := []) hC hK hR hl.1 (c_X10_isIn l hG σ τ hr (0 : Int32) (σ 35 29) ) (call_b hC.ts TC_X10_isIn TN_X10 TM_X10_129 hd_X10_isIn ⟨Nat.le_of_ble_eq_true rfl, Nat.le_of_ble_eq_true rfl⟩) TT_X10_isIn rfl rfl (Nat.le_of_ble_eq_true rfl) dX10_ring_46 ⟨Nat.le_of_ble_eq_true rfl, Nat.le_of_ble_eq_true rfl⟩) hS (fun v_23 H locs w_24 hR hS => ?_)
              rcases w_24 with ⟨rfl, f_25, f_26⟩ | ⟨rfl, f_27⟩
              · skip
                refine bz_ne (tgt := 55) (a := 1) (b := 0) hC.x hC.b rfl rfl dX10_ring_49 (by decide) (fun _ => ?_) (fun c_28 => absurd c_28 (by decide))
                refine lv_aload_n hC.x hC.b dX10_ring_55 rfl (lv_at hl 0 rfl) ?_
                refine lv_iload_n hC.x hC.b dX10_ring_56 rfl (lv_at hl 1 rfl) ?_
                refine lv_iload_n hC.x hC.b dX10_ring_57 rfl (lv_at hl 2 rfl) ?_
                refine lv_iload hC.x hC.b dX10_ring_58 (lv_at hl 4 rfl) ?_
                refine goip (runV (As := [.int xa, .int ya, .int hr]) (rest := []) hC hK hR hl.1 (c2_X10_direct l hG σ τ xa ya hr hq (by first | rfl | (rw [show hr.toInt = hr.toInt from rfl]; done) | (rw [show hr.toInt = hr.toInt from rfl]; exact hp_hq)) (by first | assumption | omega)) (call_b hC.ts TC_X10_direct TN_X10 TM_X10_257 hd_X10_direct ⟨Nat.le_of_ble_eq_true rfl, Nat.le_of_ble_eq_true rfl⟩) TI_X10_direct TS_X10_direct (ct_model G _ _) rfl rfl rfl (Nat.le_of_ble_eq_true rfl) dX10_ring_60 ⟨Nat.le_of_ble_eq_true rfl, Nat.le_of_ble_eq_true rfl⟩) hS (fun v_29 H locs w_30 hR hS => ?_)
                subst w_30
                refine lv_istore (lv' := [(5, .int (dbM σ xa ya hr hq 24)), (0, .ref (G.2.1 35)), (1, .int xa), (2, .int ya), (3, .int za), (4, .int hr)]) hC.x hC.b dX10_ring_63 hl (by decide) rfl (fun ls hl => ?_)
                refine lv_aload_n hC.x hC.b dX10_ring_65 rfl (lv_at hl 1 rfl) ?_
                refine lv_iload_n hC.x hC.b dX10_ring_66 rfl (lv_at hl 3 rfl) ?_
                refine lv_iload_n hC.x hC.b dX10_ring_67 rfl (lv_at hl 4 rfl) ?_
                refine lv_iload hC.x hC.b dX10_ring_68 (lv_at hl 5 rfl) ?_
                refine goip (runV (As := [.int ya, .int za, .int hr]) (rest := []) hC hK hR hl.1 (c2_X10_direct l hG σ τ ya za hr hq (by first | rfl | (rw [show hr.toInt = hr.toInt from rfl]; done) | (rw [show hr.toInt = hr.toInt from rfl]; exact hp_hq)) (by first | assumption | omega)) (call_b hC.ts TC_X10_direct TN_X10 TM_X10_257 hd_X10_direct ⟨Nat.le_of_ble_eq_true rfl, Nat.le_of_ble_eq_true rfl⟩) TI_X10_direct TS_X10_direct (ct_model G _ _) rfl rfl rfl (Nat.le_of_ble_eq_true rfl) dX10_ring_70 ⟨Nat.le_of_ble_eq_true rfl, Nat.le_of_ble_eq_true rfl⟩) hS (fun v_31 H locs w_32 hR hS => ?_)
                subst w_32
                refine lv_istore (lv' := [(6, .int (dbM σ ya za hr hq 24)), (5, .int (dbM σ xa ya hr hq 24)), (0, .ref (G.2.1 35)), (1, .int xa), (2, .int ya), (3, .int za), (4, .int hr)]) hC.x hC.b dX10_ring_73 hl (by decide) rfl (fun ls hl => ?_)
                refine lv_aload_n hC.x hC.b dX10_ring_75 rfl (lv_at hl 2 rfl) ?_
                refine lv_iload_n hC.x hC.b dX10_ring_76 rfl (lv_at hl 5 rfl) ?_
                refine lv_iload_n hC.x hC.b dX10_ring_77 rfl (lv_at hl 3 rfl) ?_
                refine lv_iload hC.x hC.b dX10_ring_78 (lv_at hl 6 rfl) ?_
                refine goip (runV (As := [.int za, .int xa, .int hr]) (rest := []) hC hK hR hl.1 (c2_X10_direct l hG σ τ za xa hr hq (by first | rfl | (rw [show hr.toInt = hr.toInt from rfl]; done) | (rw [show hr.toInt = hr.toInt from rfl]; exact hp_hq)) (by first | assumption | omega)) (call_b hC.ts TC_X10_direct TN_X10 TM_X10_257 hd_X10_direct ⟨Nat.le_of_ble_eq_true rfl, Nat.le_of_ble_eq_true rfl⟩) TI_X10_direct TS_X10_direct (ct_model G _ _) rfl rfl rfl (Nat.le_of_ble_eq_true rfl) dX10_ring_80 ⟨Nat.le_of_ble_eq_true rfl, Nat.le_of_ble_eq_true rfl⟩) hS (fun v_33 H locs w_34 hR hS => ?_)
                subst w_34
                refine lv_istore (lv' := [(7, .int (dbM σ za xa hr hq 24)), (6, .int (dbM σ ya za hr hq 24)), (5, .int (dbM σ xa ya hr hq 24)), (0, .ref (G.2.1 35)), (1, .int xa), (2, .int ya), (3, .int za), (4, .int hr)]) hC.x hC.b dX10_ring_83 hl (by decide) rfl (fun ls hl => ?_)
                refine lv_iload hC.x hC.b dX10_ring_85 (lv_at hl 2 rfl) ?_
                refine lv_ldc hC.x hC.b hC.ow (hC.ts _ TK_X10_151) dX10_ring_87 ?_
                refine bi_eq (tgt := 106) (a := (dbM σ xa ya hr hq 24).toInt) (b := 1000000) hC.x hC.b rfl rfl dX10_ring_89 (by decide) (fun c_35 => ?_) (fun c_35 => ?_)
                · skip
                  refine lv_ldc hC.x hC.b hC.ow (hC.ts _ TK_X10_151) dX10_ring_106 ?_
                  refine lv_goto (tgt := 119) hC.x hC.b dX10_ring_108 (by decide) ?_
                  exact reti hC hK hR hS ⟨rfl, (by first | (unfold rgM; (repeat (first | rfl | rw [if_pos (by omega)] | rw [if_neg (by omega)])); done) | (exfalso; omega))⟩ dX10_ring_119
                · skip
                  refine lv_iload hC.x hC.b dX10_ring_92 (lv_at hl 1 rfl) ?_
                  refine lv_ldc hC.x hC.b hC.ow (hC.ts _ TK_X10_151) dX10_ring_94 ?_
                  refine bi_eq (tgt := 106) (a := (dbM σ ya za hr hq 24).toInt) (b := 1000000) hC.x hC.b rfl rfl dX10_ring_96 (by decide) (fun c_36 => ?_) (fun c_36 => ?_)
                  · skip
                    refine lv_ldc hC.x hC.b hC.ow (hC.ts _ TK_X10_151) dX10_ring_106 ?_
                    refine lv_goto (tgt := 119) hC.x hC.b dX10_ring_108 (by decide) ?_
                    exact reti hC hK hR hS ⟨rfl, (by first | (unfold rgM; (repeat (first | rfl | rw [if_pos (by omega)] | rw [if_neg (by omega)])); done) | (exfalso; omega))⟩ dX10_ring_119
                  · skip
                    refine lv_iload hC.x hC.b dX10_ring_99 (lv_at hl 0 rfl) ?_
                    refine lv_ldc hC.x hC.b hC.ow (hC.ts _ TK_X10_151) dX10_ring_101 ?_
                    refine bi_ne (tgt := 111) (a := (dbM σ za xa hr hq 24).toInt) (b := 1000000) hC.x hC.b rfl rfl dX10_ring_103 (by decide) (fun c_37 => ?_) (fun c_37 => ?_)
                    · skip
                      refine lv_iload hC.x hC.b dX10_ring_111 (lv_at hl 2 rfl) ?_
                      refine lv_iload hC.x hC.b dX10_ring_113 (lv_at hl 1 rfl) ?_
                      refine lv_iadd hC.x hC.b dX10_ring_115 ?_
                      refine lv_iload hC.x hC.b dX10_ring_116 (lv_at hl 0 rfl) ?_
                      refine lv_iadd hC.x hC.b dX10_ring_118 ?_
                      exact reti hC hK hR hS ⟨rfl, (by first | (unfold rgM; (repeat (first | rfl | rw [if_pos (by omega)] | rw [if_neg (by omega)])); done) | (exfalso; omega))⟩ dX10_ring_119
                    · skip
                      refine lv_ldc hC.x hC.b hC.ow (hC.ts _ TK_X10_151) dX10_ring_106 ?_
                      refine lv_goto (tgt := 119) hC.x hC.b dX10_ring_108 (by decide) ?_
                      exact reti hC hK hR hS ⟨rfl, (by first | (unfold rgM; (repeat (first | rfl | rw [if_pos (by omega)] | rw [if_neg (by omega)])); done) | (exfalso; omega))⟩ dX10_ring_119
              · skip
                refine bz_ne (tgt := 55) (a := 0) (b := 0) hC.x hC.b rfl rfl dX10_ring_49 (by decide) (fun c_38 => absurd c_38 (by decide)) (fun _ => ?_)
                refine lv_ldc hC.x hC.b hC.ow (hC.ts _ TK_X10_151) dX10_ring_52 ?_
                exact reti hC hK hR hS ⟨rfl, (by first | (unfold rgM; (repeat (first | rfl | rw [if_pos (by omega)] | rw [if_neg (by omega)])); done) | (exfalso; omega))⟩ dX10_ring_54
      · skip
        refine bz_eq (tgt := 52) (a := 0) (b := 0) hC.x hC.b rfl rfl dX10_ring_21 (by decide) (fun _ => ?_) (fun c_39 => absurd c_39 (by decide))
        refine lv_ldc hC.x hC.b hC.ow (hC.ts _ TK_X10_151) dX10_ring_52 ?_
        exact reti hC hK hR hS ⟨rfl, (by first | (unfold rgM; (repeat (first | rfl | rw [if_pos (by omega)] | rw [if_neg (by omega)])); done) | (exfalso; omega))⟩ dX10_ring_54
    · skip
      refine bz_eq (tgt := 52) (a := 0) (b := 0) hC.x hC.b rfl rfl dX10_ring_13 (by decide) (fun _ => ?_) (fun c_40 => absurd c_40 (by decide))
      refine lv_ldc hC.x hC.b hC.ow (hC.ts _ TK_X10_151) dX10_ring_52 ?_
      exact reti hC hK hR hS ⟨rfl, (by first | (unfold rgM; (repeat (first | rfl | rw [if_pos (by omega)] | rw [if_neg (by omega)])); done) | (exfalso; omega))⟩ dX10_ring_54
  · skip
    refine bz_eq (tgt := 52) (a := 0) (b := 0) hC.x hC.b rfl rfl dX10_ring_5 (by decide) (fun _ => ?_) (fun c_41 => absurd c_41 (by decide))
    refine lv_ldc hC.x hC.b hC.ow (hC.ts _ TK_X10_151) dX10_ring_52 ?_
    exact reti hC hK hR hS ⟨rfl, (by first | (unfold rgM; (repeat (first | rfl | rw [if_pos (by omega)] | rw [if_neg (by omega)])); done) | (exfalso; omega))⟩ dX10_ring_54
/-- the ends of a link are two clocks -/
def EN (σ : SI) : Prop := ∀ j, j < 24 → 4 ≤ (σ 36 j).toInt ∧ (σ 36 j).toInt ≤ 6 → (σ 37 j).toInt ≠ (σ 38 j).toInt ∧ (0 ≤ (σ 37 j).toInt ∧ (σ 37 j).toInt < 24 ∧ 0 ≤ (σ 36 (σ 37 j).toInt.toNat).toInt ∧ (σ 36 (σ 37 j).toInt.toNat).toInt ≤ 3) ∧ (0 ≤ (σ 38 j).toInt ∧ (σ 38 j).toInt < 24 ∧ 0 ≤ (σ 36 (σ 38 j).toInt.toNat).toInt ∧ (σ 36 (σ 38 j).toInt.toNat).toInt ≤ 3)
def K3 (σ s : SI) : Prop := s 36 = σ 36 ∧ s 37 = σ 37 ∧ s 38 = σ 38
theorem EN.ex {σ s : SI} (h : EN σ) (e : K3 σ s) : EN s := by
  unfold EN
  rw [e.1, e.2.1, e.2.2]
  exact h
theorem K3.cf {σ s : SI} (h : Cfr σ s) : K3 σ s := ⟨h 36 (by omega) (by omega), h 37 (by omega) (by omega), h 38 (by omega) (by omega)⟩
theorem K3.mr {S J : Nat → Prop} {σ s : SI} (r : MRel S J σ s) (a : ¬ S 36) (b : ¬ S 37) (c : ¬ S 38) : K3 σ s := ⟨r.1 36 (by omega) a, r.1 37 (by omega) b, r.1 38 (by omega) c⟩
def Inv3 (σ : SI) : Prop := Inv σ ∧ Rel σ ∧ EN σ
theorem en_0 : EN s0 := fun j hj hk => by
  have e36 : s0 36 j = -1 := rfl
  rw [e36] at hk
  exact absurd hk (by decide)
section RING
variable {σ s1 s2 s : SI} {τ t1 t2 t : SL} {v v2 : Int32} {pl ka fa sa xa ya za wa hr oa : Int32} {q fq sq xq yq zq hq : Nat}
theorem db_eq (h : Rel σ) (hn : 0 ≤ (σ 35 29).toInt ∧ (σ 35 29).toInt ≤ 200) (hh : hr.toInt.toNat = hq) (d1 : 0 ≤ hr.toInt) (d2 : hr.toInt ≤ (σ 35 29).toInt) (hb : 0 ≤ ya.toInt) : ∀ m, m ≤ 24 → tbC σ xa ya hr m = dbM σ xa ya hr hq m
  | 0, _ => rfl
  | k + 1, hm => by
    have ih := db_eq h hn hh d1 d2 hb k (by omega)
    have hP := h (23 - k) (by omega)
    show (if _ then _ else _) = (if _ then _ else _)
    rw [ih, hP.1]
    by_cases hk : 4 ≤ (σ 36 (23 - k)).toInt ∧ (σ 36 (23 - k)).toInt ≤ 6
    · have hL := hP.2.2.1 hk
      have ht := told_eq h hn hh (show 23 - k < 24 by omega) hk d1 d2
      rw [ht, hL.2.1, hL.2.2.1]
      by_cases hu : (toldM σ (23 - k) hr hq).toInt = 1000000
      · rw [if_neg (by omega), if_neg (by omega)]
      · rw [if_pos (by omega)]
        by_cases g1 : (σ 37 (23 - k)).toInt = xa.toInt
        · have ho : otherM σ (23 - k) xa = σ 38 (23 - k) := by unfold otherM; rw [if_pos g1]
          rw [ho]
          by_cases g2 : (σ 38 (23 - k)).toInt = ya.toInt
          · rw [if_pos (by omega), if_pos (by omega), if_pos (by omega)]
          · rw [if_neg (by omega), if_neg (by omega), if_neg (by omega)]
        · by_cases g3 : (σ 38 (23 - k)).toInt = xa.toInt
          · have ho : otherM σ (23 - k) xa = σ 37 (23 - k) := by unfold otherM; rw [if_neg g1, if_pos g3]
            rw [ho]
            by_cases g2 : (σ 37 (23 - k)).toInt = ya.toInt
            · rw [if_neg (by omega), if_pos (by omega), if_pos (by omega), if_neg (by omega)]
            · rw [if_neg (by omega), if_neg (by omega), if_neg (by omega)]
          · have ho : otherM σ (23 - k) xa = -1 := by unfold otherM; rw [if_neg g1, if_neg g3]
            have e1 : ((-1 : Int32)).toInt = -1 := by decide
            rw [ho, e1]
            rw [if_neg (by omega), if_neg (by omega), if_neg (by omega)]
    · rw [if_neg (by omega), if_neg (by omega)]
theorem tb_no (h : Rel σ) (hno : ∀ j, j < 24 → 4 ≤ (σ 36 j).toInt ∧ (σ 36 j).toInt ≤ 6 → ¬ ((σ 37 j).toInt = xa.toInt ∧ (σ 38 j).toInt = ya.toInt) ∧ ¬ ((σ 37 j).toInt = ya.toInt ∧ (σ 38 j).toInt = xa.toInt)) : ∀ m, m ≤ 24 → tbC σ xa ya hr m = 1000000
  | 0, _ => rfl
  | k + 1, hm => by
    have ih := tb_no h hno k (by omega)
    have hP := h (23 - k) (by omega)
    show (if _ then _ else _) = _
    rw [ih, hP.1]
    by_cases hk : 4 ≤ (σ 36 (23 - k)).toInt ∧ (σ 36 (23 - k)).toInt ≤ 6
    · have hL := hP.2.2.1 hk
      have hn := hno (23 - k) (by omega) hk
      rw [hL.2.1, hL.2.2.1]
      by_cases hu : (toldC σ (23 - k) hr).toInt = 1000000
      · rw [if_neg (by omega)]
      · rw [if_pos (by omega), if_neg hn.1, if_neg hn.2]
    · rw [if_neg (by omega)]
theorem ag_ring (h : Rel σ) (hE : EN σ) (hn : 0 ≤ (σ 35 29).toInt ∧ (σ 35 29).toInt ≤ 200) (hw : σ 0 8 = σ 35 29) (hx : xa.toInt.toNat = xq) (hy : ya.toInt.toNat = yq) (hz : za.toInt.toNat = zq) (hh : hr.toInt.toNat = hq) (w : v = rgC σ xa ya za hr) (w2 : v2 = rgM σ xa xq ya yq za zq hr hq) : v = v2 := by
  rw [w, w2]
  unfold rgC rgM
  rw [hw]
  by_cases d : 0 ≤ hr.toInt ∧ hr.toInt ≤ (σ 35 29).toInt
  · rw [if_pos d]
    by_cases g : (0 ≤ xa.toInt ∧ xa.toInt < 24 ∧ 0 ≤ (σ 36 xq).toInt ∧ (σ 36 xq).toInt ≤ 3) ∧ (0 ≤ ya.toInt ∧ ya.toInt < 24 ∧ 0 ≤ (σ 36 yq).toInt ∧ (σ 36 yq).toInt ≤ 3) ∧ (0 ≤ za.toInt ∧ za.toInt < 24 ∧ 0 ≤ (σ 36 zq).toInt ∧ (σ 36 zq).toInt ≤ 3) ∧ xa.toInt ≠ ya.toInt ∧ ya.toInt ≠ za.toInt ∧ xa.toInt ≠ za.toInt ∧ 0 ≤ hr.toInt ∧ hr.toInt ≤ (σ 35 29).toInt
    · rw [if_pos g, db_eq h hn hh d.1 d.2 (by omega) 24 (by omega), db_eq h hn hh d.1 d.2 (by omega) 24 (by omega), db_eq h hn hh d.1 d.2 (by omega) 24 (by omega)]
    · rw [if_neg g]
      have key : ∀ (x y : Int32) (p : Nat), x.toInt.toNat = p → ¬ (0 ≤ x.toInt ∧ x.toInt < 24 ∧ 0 ≤ (σ 36 p).toInt ∧ (σ 36 p).toInt ≤ 3) → tbC σ x y hr 24 = 1000000 := fun x y p hp hc => tb_no h (fun j hj hk => by
        obtain ⟨-, e1, e2⟩ := hE j hj hk
        constructor
        · rintro ⟨a, -⟩
          rw [show (σ 37 j).toInt.toNat = p by rw [a]; exact hp, a] at e1
          exact hc e1
        · rintro ⟨-, a⟩
          rw [show (σ 38 j).toInt.toNat = p by rw [a]; exact hp, a] at e2
          exact hc e2) 24 (by omega)
      have key2 : ∀ (x y : Int32), x.toInt = y.toInt → tbC σ x y hr 24 = 1000000 := fun x y hxy => tb_no h (fun j hj hk => by
        obtain ⟨e0, -, -⟩ := hE j hj hk
        constructor <;> rintro ⟨a, b⟩ <;> omega) 24 (by omega)
      have e1 : ((1000000 : Int32)).toInt = 1000000 := by decide
      have hor : (tbC σ xa ya hr 24).toInt = 1000000 ∨ (tbC σ ya za hr 24).toInt = 1000000 ∨ (tbC σ za xa hr 24).toInt = 1000000 := by
        by_cases g1 : 0 ≤ xa.toInt ∧ xa.toInt < 24 ∧ 0 ≤ (σ 36 xq).toInt ∧ (σ 36 xq).toInt ≤ 3
        · by_cases g2 : 0 ≤ ya.toInt ∧ ya.toInt < 24 ∧ 0 ≤ (σ 36 yq).toInt ∧ (σ 36 yq).toInt ≤ 3
          · by_cases g3 : 0 ≤ za.toInt ∧ za.toInt < 24 ∧ 0 ≤ (σ 36 zq).toInt ∧ (σ 36 zq).toInt ≤ 3
            · by_cases g4 : xa.toInt = ya.toInt
              · left; rw [key2 _ _ g4]; exact e1
              · by_cases g5 : ya.toInt = za.toInt
                · right; left; rw [key2 _ _ g5]; exact e1
                · right; right; rw [key2 _ _ (by omega)]; exact e1
            · right; right; rw [key _ _ zq hz g3]; exact e1
          · right; left; rw [key _ _ yq hy g2]; exact e1
        · left; rw [key _ _ xq hx g1]; exact e1
      rw [if_pos hor]
  · rw [if_neg d, if_neg (by omega)]
theorem en_put (h : EN σ) (hq : pl.toInt.toNat = q) (hfq : fa.toInt.toNat = fq) (hsq : sa.toInt.toNat = sq) (w : po_X10_put σ τ pl q ka fa fq sa sq v (s, t)) : EN s := by
  rcases w with ⟨-, e, -⟩ | ⟨-, -, hN, hp⟩
  · have e : s = σ := e
    rw [e]
    exact h
  · have hN : TornN _ s q 201 := hN
    have hm : (σ 36 q).toInt = -1 := by omega
    have g36 : s 36 q = ka := by rw [hN.1 36 (by omega)]; repeat (first | rw [up2_o (by omega)] | rw [up2_n (by omega)] | rw [up2_s])
    have g37 : s 37 q = fa := by rw [hN.1 37 (by omega)]; repeat (first | rw [up2_o (by omega)] | rw [up2_n (by omega)] | rw [up2_s])
    have g38 : s 38 q = sa := by rw [hN.1 38 (by omega)]; repeat (first | rw [up2_o (by omega)] | rw [up2_n (by omega)] | rw [up2_s])
    have o36 : ∀ j, j ≠ q → s 36 j = σ 36 j := fun j hj => by rw [hN.1 36 (by omega)]; repeat (first | rw [up2_o (by omega)] | rw [up2_n (by omega)])
    have o37 : ∀ j, j ≠ q → s 37 j = σ 37 j := fun j hj => by rw [hN.1 37 (by omega)]; repeat (first | rw [up2_o (by omega)] | rw [up2_n (by omega)])
    have o38 : ∀ j, j ≠ q → s 38 j = σ 38 j := fun j hj => by rw [hN.1 38 (by omega)]; repeat (first | rw [up2_o (by omega)] | rw [up2_n (by omega)])
    have keep : ∀ p, 0 ≤ (σ 36 p).toInt ∧ (σ 36 p).toInt ≤ 3 → 0 ≤ (s 36 p).toInt ∧ (s 36 p).toInt ≤ 3 := fun p g => by
      have hne : p ≠ q := fun e => by subst e; omega
      rw [o36 p hne]
      exact g
    intro j hj hk
    by_cases ej : j = q
    · subst ej
      rw [g36] at hk
      rw [g37, g38]
      rcases hp with hp | hp | hp
      · exfalso; omega
      · obtain ⟨-, -, -, p4, p5, p6⟩ := hp
        refine ⟨p4, ⟨p5.1, p5.2.1, ?_⟩, ⟨p6.1, p6.2.1, ?_⟩⟩
        · rw [hfq]; exact keep fq p5.2.2
        · rw [hsq]; exact keep sq p6.2.2
      · exfalso; omega
    · rw [o36 j ej] at hk
      obtain ⟨a, b, c⟩ := h j hj hk
      rw [o37 j ej, o38 j ej]
      exact ⟨a, ⟨b.1, b.2.1, keep _ b.2.2⟩, ⟨c.1, c.2.1, keep _ c.2.2⟩⟩
theorem en_lift (h : EN σ) (hq : pl.toInt.toNat = q) (w : po_X10_lift σ τ pl q v (s, t)) : EN s := by
  rcases w with ⟨-, e, -⟩ | ⟨-, e, -⟩ | ⟨-, e, -, a1, a2, a3⟩
  · have e : s = σ := e
    rw [e]
    exact h
  · have e : s = σ := e
    rw [e]
    exact h
  · have e : s = _ := e
    rw [e]
    intro j hj hk
    have ej : j ≠ q := fun g => by
      subst g
      rw [up2_s] at hk
      exact absurd hk (by decide)
    rw [up2_n ej] at hk
    obtain ⟨a, b, c⟩ := h j hj hk
    have n1 : (σ 37 j).toInt.toNat ≠ q := fun g => by
      rcases a3 with a3 | a3
      · exact a3 ⟨j, hj, hk.1, hk.2, Or.inl (by omega)⟩
      · rw [g] at b; omega
    have n2 : (σ 38 j).toInt.toNat ≠ q := fun g => by
      rcases a3 with a3 | a3
      · exact a3 ⟨j, hj, hk.1, hk.2, Or.inr (by omega)⟩
      · rw [g] at c; omega
    rw [up2_o (show (37 : Nat) ≠ 36 by decide), up2_o (show (38 : Nat) ≠ 36 by decide), up2_n n1, up2_n n2]
    exact ⟨a, b, c⟩
theorem k3_read (w : po_X10_read σ τ pl q xa v (s, t)) : K3 σ s := by
  rcases w with ⟨-, e, -⟩ | ⟨-, e, -⟩ | ⟨-, e, -⟩
  all_goals
    have e : s = _ := e
    rw [e]
    refine ⟨?_, ?_, ?_⟩ <;> first | rfl | (repeat rw [up2_ne (by omega)])
theorem k3_back (w : po_X10_back σ τ pl q xa v (s, t)) : K3 σ s := by
  rcases w with ⟨-, e, -⟩ | ⟨-, e, -⟩ | ⟨-, e, -⟩
  all_goals
    have e : s = _ := e
    rw [e]
    refine ⟨?_, ?_, ?_⟩ <;> first | rfl | (repeat rw [up2_ne (by omega)])
theorem k3_tear (w : po_X10_tear σ τ pl q v (s, t)) : K3 σ s := by
  rcases w with ⟨-, e, -⟩ | ⟨-, e, -⟩ | ⟨-, -, -, -, hT⟩
  · have e : s = σ := e
    rw [e]
    exact ⟨rfl, rfl, rfl⟩
  · have e : s = σ := e
    rw [e]
    exact ⟨rfl, rfl, rfl⟩
  · exact ⟨hT.1 36 (by omega), hT.1 37 (by omega), hT.1 38 (by omega)⟩
theorem k3_way (w : po_X10_way σ τ pl q xa v (s, t)) : K3 σ s := by
  rcases w with ⟨-, e, -⟩ | ⟨-, e, -⟩ | ⟨-, e, -⟩
  all_goals
    have e : s = _ := e
    rw [e]
    refine ⟨?_, ?_, ?_⟩ <;> first | rfl | (repeat rw [up2_ne (by omega)])
theorem k3_take (w : po_X10_take σ τ pl q v (s, t)) : K3 σ s := by
  rcases w with ⟨-, e, -⟩ | ⟨-, e, -⟩ | ⟨-, e, -⟩
  all_goals
    have e : s = _ := e
    rw [e]
    refine ⟨?_, ?_, ?_⟩ <;> first | rfl | (repeat rw [up2_ne (by omega)])
theorem k3_leave (w : po_X10_leave σ τ pl q v (s, t)) : K3 σ s := by
  rcases w with ⟨-, e, -⟩ | ⟨-, e, -⟩ | ⟨-, e, -⟩ | ⟨-, e, -⟩
  all_goals
    have e : s = _ := e
    rw [e]
    refine ⟨?_, ?_, ?_⟩ <;> first | rfl | (repeat rw [up2_ne (by omega)])
theorem k3_call (w : po_X10_call σ τ pl q oa v (s, t)) : K3 σ s := by
  rcases w with ⟨-, e, -⟩ | ⟨-, e, -⟩ | ⟨-, e, -⟩
  all_goals
    have e : s = _ := e
    rw [e]
    refine ⟨?_, ?_, ?_⟩ <;> first | rfl | (repeat rw [up2_ne (by omega)])
theorem k3_steer (w : po_X10_steer σ τ pl q xa v (s, t)) : K3 σ s := by
  rcases w with ⟨-, e, -⟩ | ⟨-, e, -⟩ | ⟨-, e, -⟩ | ⟨-, e, -⟩
  all_goals
    have e : s = _ := e
    rw [e]
    refine ⟨?_, ?_, ?_⟩ <;> first | rfl | (repeat rw [up2_ne (by omega)])
theorem k3_set (w : po_X10_set σ τ wa xa v (s, t)) : K3 σ s := by
  rcases w with ⟨-, e, -⟩ | ⟨-, e, -⟩ | ⟨-, e, -⟩ | ⟨-, e, -⟩
  all_goals
    have e : s = _ := e
    rw [e]
    refine ⟨?_, ?_, ?_⟩ <;> first | rfl | (repeat rw [up2_ne (by omega)])
theorem k3_show (w : po_X10_show σ τ xa v (s, t)) : K3 σ s := by
  rcases w with ⟨-, e, -⟩ | ⟨-, e, -⟩
  all_goals
    have e : s = _ := e
    rw [e]
    refine ⟨?_, ?_, ?_⟩ <;> first | rfl | (repeat rw [up2_ne (by omega)])
theorem k3_close (w : po_X10_close σ τ v (s, t)) : K3 σ s := by
  rcases w with ⟨-, -, -, e⟩ | ⟨e, -⟩
  · have e : s = σ := e
    rw [e]
    exact ⟨rfl, rfl, rfl⟩
  · have e : MRel _ _ σ s := e
    exact K3.mr e (by first | omega | (dsimp only; omega)) (by first | omega | (dsimp only; omega)) (by first | omega | (dsimp only; omega))
theorem k3_xset (w : po_X9_set σ τ wa xa v (s, t)) : K3 σ s := by
  rcases w with ⟨-, e, -⟩ | ⟨-, e, -⟩ | ⟨-, e, -⟩ | ⟨-, e, -⟩
  all_goals
    have e : s = _ := e
    rw [e]
    refine ⟨?_, ?_, ?_⟩ <;> first | rfl | (repeat rw [up2_ne (by omega)])
theorem k3_xshow (w : po_X9_show σ τ xa v (s, t)) : K3 σ s := by
  rcases w with ⟨-, e, -⟩ | ⟨-, e, -⟩
  all_goals
    have e : s = _ := e
    rw [e]
    refine ⟨?_, ?_, ?_⟩ <;> first | rfl | (repeat rw [up2_ne (by omega)])
theorem k3_xclose (w : po_X9_close σ τ v (s, t)) : K3 σ s := by
  rcases w with ⟨-, e, -⟩ | ⟨-, e, -⟩
  · have e : s = σ := e
    rw [e]
    exact ⟨rfl, rfl, rfl⟩
  · have e : ClC σ s := e
    exact ⟨e.1 36 (by omega), e.1 37 (by omega), e.1 38 (by omega)⟩
end RING
