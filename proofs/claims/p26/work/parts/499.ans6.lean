/-! ===== what is answered out of the past ===== -/
def ofP (σ : SI) (wa hr : Int32) : Int32 := if wa.toInt < 0 ∨ 6 ≤ wa.toInt ∨ hr.toInt < 0 ∨ 200 ≤ hr.toInt then -1 else σ (29 + wa.toInt.toNat) hr.toInt.toNat
def ofPM (σ : SI) (wa hr : Int32) : Int32 :=
  if ¬ (0 ≤ hr.toInt ∧ hr.toInt ≤ (σ 35 29).toInt - 1) ∨ (σ 59 hr.toInt.toNat).toInt = -1 then -1 else if wa.toInt = 0 then σ 59 hr.toInt.toNat else if wa.toInt = 1 then σ 60 hr.toInt.toNat else if wa.toInt = 2 then σ 64 hr.toInt.toNat
  else if wa.toInt = 3 then σ 61 hr.toInt.toNat else if wa.toInt = 4 then σ 62 hr.toInt.toNat else if wa.toInt = 5 then σ 63 hr.toInt.toNat else -1
def ofS (σ : SI) (ia wa : Int32) : Int32 := if ia.toInt < 0 ∨ (σ 8 3).toInt ≤ ia.toInt ∨ 100 ≤ ia.toInt then -1 else if wa.toInt = 0 then σ 9 ia.toInt.toNat else if wa.toInt = 1 then σ 10 ia.toInt.toNat else if wa.toInt = 2 then σ 11 ia.toInt.toNat else -1
def ofSM (σ : SI) (ia wa : Int32) : Int32 := if ¬ (0 ≤ ia.toInt ∧ ia.toInt ≤ (σ 35 37).toInt - 1) then -1 else if wa.toInt = 0 then σ 65 ia.toInt.toNat else if wa.toInt = 1 then σ 66 ia.toInt.toNat else if wa.toInt = 2 then σ 67 ia.toInt.toNat else -1
def CKV (tk su : Prop) (ou cn st sp rc sn dr wa v : Int32) : Prop :=
  (wa.toInt = 0 ∧ ((tk ∧ v = 1) ∨ (¬ tk ∧ v = 0))) ∨ (wa.toInt = 1 ∧ ((ou.toInt ≠ 0 ∧ v = 1) ∨ (ou.toInt = 0 ∧ v = 0))) ∨ (wa.toInt = 2 ∧ ((su ∧ v = 1) ∨ (¬ su ∧ v = 0))) ∨ (wa.toInt = 3 ∧ v = cn) ∨ (wa.toInt = 4 ∧ v = st) ∨ (wa.toInt = 5 ∧ v = sp) ∨ (wa.toInt = 6 ∧ v = rc) ∨ (wa.toInt = 7 ∧ v = sn) ∨ (wa.toInt = 8 ∧ v = dr) ∨ ((wa.toInt < 0 ∨ 8 < wa.toInt) ∧ v = -1)
section CKVS
variable {tk su : Prop} {ou cn st sp rc sn dr wa v : Int32}
theorem CKV.t (h : wa.toInt = 0) (k : tk) : CKV tk su ou cn st sp rc sn dr wa 1 := Or.inl ⟨h, Or.inl ⟨k, rfl⟩⟩
theorem CKV.tn (h : wa.toInt = 0) (k : ¬ tk) : CKV tk su ou cn st sp rc sn dr wa 0 := Or.inl ⟨h, Or.inr ⟨k, rfl⟩⟩
theorem CKV.o (h : wa.toInt = 1) (k : ou.toInt ≠ 0) : CKV tk su ou cn st sp rc sn dr wa 1 := Or.inr (Or.inl ⟨h, Or.inl ⟨k, rfl⟩⟩)
theorem CKV.on (h : wa.toInt = 1) (k : ou.toInt = 0) : CKV tk su ou cn st sp rc sn dr wa 0 := Or.inr (Or.inl ⟨h, Or.inr ⟨k, rfl⟩⟩)
theorem CKV.s (h : wa.toInt = 2) (k : su) : CKV tk su ou cn st sp rc sn dr wa 1 := Or.inr (Or.inr (Or.inl ⟨h, Or.inl ⟨k, rfl⟩⟩))
theorem CKV.sn' (h : wa.toInt = 2) (k : ¬ su) : CKV tk su ou cn st sp rc sn dr wa 0 := Or.inr (Or.inr (Or.inl ⟨h, Or.inr ⟨k, rfl⟩⟩))
theorem CKV.c (h : wa.toInt = 3) (k : v = cn) : CKV tk su ou cn st sp rc sn dr wa v := Or.inr (Or.inr (Or.inr (Or.inl ⟨h, k⟩)))
theorem CKV.g (h : wa.toInt = 4) : CKV tk su ou cn st sp rc sn dr wa st := Or.inr (Or.inr (Or.inr (Or.inr (Or.inl ⟨h, rfl⟩))))
theorem CKV.p (h : wa.toInt = 5) : CKV tk su ou cn st sp rc sn dr wa sp := Or.inr (Or.inr (Or.inr (Or.inr (Or.inr (Or.inl ⟨h, rfl⟩)))))
theorem CKV.r (h : wa.toInt = 6) : CKV tk su ou cn st sp rc sn dr wa rc := Or.inr (Or.inr (Or.inr (Or.inr (Or.inr (Or.inr (Or.inl ⟨h, rfl⟩))))))
theorem CKV.k (h : wa.toInt = 7) : CKV tk su ou cn st sp rc sn dr wa sn := Or.inr (Or.inr (Or.inr (Or.inr (Or.inr (Or.inr (Or.inr (Or.inl ⟨h, rfl⟩)))))))
theorem CKV.d (h : wa.toInt = 8) : CKV tk su ou cn st sp rc sn dr wa dr := Or.inr (Or.inr (Or.inr (Or.inr (Or.inr (Or.inr (Or.inr (Or.inr (Or.inl ⟨h, rfl⟩))))))))
theorem CKV.x (h : wa.toInt < 0 ∨ 8 < wa.toInt) : CKV tk su ou cn st sp rc sn dr wa (-1) := Or.inr (Or.inr (Or.inr (Or.inr (Or.inr (Or.inr (Or.inr (Or.inr (Or.inr ⟨h, rfl⟩))))))))
theorem CKV.ag {tk' su' : Prop} {v' : Int32} (et : tk ↔ tk') (es : su ↔ su') (h : CKV tk su ou cn st sp rc sn dr wa v) (h' : CKV tk' su' ou cn st sp rc sn dr wa v') : v = v' := by
  unfold CKV at h h'
  rw [et, es] at h
  rcases h with ⟨a, h⟩ | ⟨a, h⟩ | ⟨a, h⟩ | ⟨a, h⟩ | ⟨a, h⟩ | ⟨a, h⟩ | ⟨a, h⟩ | ⟨a, h⟩ | ⟨a, h⟩ | ⟨a, h⟩ <;>
  rcases h' with ⟨a', h'⟩ | ⟨a', h'⟩ | ⟨a', h'⟩ | ⟨a', h'⟩ | ⟨a', h'⟩ | ⟨a', h'⟩ | ⟨a', h'⟩ | ⟨a', h'⟩ | ⟨a', h'⟩ | ⟨a', h'⟩ <;>
  first
  | (exfalso; omega)
  | exact h.trans h'.symm
  | (rcases h with ⟨k, h⟩ | ⟨k, h⟩ <;> rcases h' with ⟨k', h'⟩ | ⟨k', h'⟩ <;> first | exact h.trans h'.symm | exact absurd k k' | exact absurd k' k)
end CKVS
theorem cnx_y {f : Int → Int32} {n : Nat} {x : Int32} (h : x = cnX f n) (hf : (f (n : Int)).toInt ≠ 2000000000) : x + 1 = cnX f (n + 1) := by
  show x + 1 = (if (f (n : Int)).toInt = 2000000000 then cnX f n else cnX f n + 1)
  rw [if_neg hf, h]
theorem cnx_n {f : Int → Int32} {n : Nat} {x : Int32} (h : x = cnX f n) (hf : (f (n : Int)).toInt = 2000000000) : x + 0 = cnX f (n + 1) := by
  show x + 0 = (if (f (n : Int)).toInt = 2000000000 then cnX f n else cnX f n + 1)
  rw [if_pos hf, h, Int32.add_zero]
theorem slc_0 {σ : SI} {τ : SL} {k : Nat} {f : Int → Int32} {sp h kd wh : Int} (A : LNe σ τ k (LF f sp h kd)) (c : (σ k 0).toInt = 0) : (2000000000 : Int32) = SLP f sp h kd wh := by
  have e : L0 (LF f sp h kd) = 0 := by
    show (LF f sp h kd).1.toInt = 0
    rw [← A.1]
    exact c
  unfold SLP
  rw [if_pos e]
theorem slc_v {σ : SI} {τ : SL} {k : Nat} {f : Int → Int32} {sp h kd wh : Int} {y : Int64} {v : Int32} (hx : XR f) (hs : 2 ≤ sp ∧ sp ≤ 12) (A : LNe σ τ k (LF f sp h kd)) (c : (σ k 0).toInt ≠ 0) (hv : ∀ L, LNe σ τ k L → LB L → y.toInt = (if wh = 0 then AB6 L else BE6 L).tdiv (Int.gcd (AB6 L) (BE6 L))) (hc : v.toInt = max (-(1000000000 : Int32).toInt) (min (1000000000 : Int32).toInt y.toInt)) : v = SLP f sp h kd wh := by
  have e : ¬ L0 (LF f sp h kd) = 0 := by
    intro q
    have q : (LF f sp h kd).1.toInt = 0 := q
    rw [← A.1] at q
    exact c q
  have e2 := hv _ A (LF_lb hx (by omega))
  have e4 : (1000000000 : Int32).toInt = 1000000000 := by decide
  rw [e4, e2] at hc
  unfold SLP
  rw [if_neg e]
  apply i32_ext
  rw [hc, cl9b_T]
abbrev po8_X7_ofPaper (σ : SI) (τ : SL) (wa : Int32) (hr : Int32) : Int32 → SI × SL → Prop := fun v u => u = (σ, τ) ∧ (((v = (ofP σ wa hr))))
set_option maxRecDepth 100000 in
set_option maxHeartbeats 4000000 in
theorem c8_X7_ofPaper (l : Launch) {G : Gx} {A : Nat → Prop} (hG : GOk G A) (σ : SI) (τ : SL) (wa : Int32) (hr : Int32) : MI l G A 0 yX7_ofPaper cX7_ofPaper 3 (some .int) [.ref (G.2.1 5), .int wa, .int hr] (σ, τ) (po8_X7_ofPaper σ τ wa hr) := by
  refine met_of (own := RX7) (by decide +kernel) rfl [(0, .ref (G.2.1 5)), (1, .int wa), (2, .int hr)] rfl (Nat.le_of_ble_eq_true rfl) ?_
  intro p e s m args below meth c ls hC hK hR hl
  have hS : va_S A s.heap s.heap [] := va_S.rf
  refine lv_iload_n hC.x hC.b dX7_ofPaper_0 rfl (lv_at hl 1 rfl) ?_
  refine bz_lt (tgt := 21) (a := wa.toInt) (b := 0) hC.x hC.b rfl rfl dX7_ofPaper_1 (by decide) (fun c_1 => ?_) (fun c_1 => ?_)
  · skip
    refine lv_iconst (v := (-1)) hC.x hC.b dX7_ofPaper_21 (by decide) ?_
    exact reti hC hK hR hS ⟨rfl, (by unfold ofP; first | (rw [if_pos (by omega)]; done) | (rw [if_neg (by omega)]; done))⟩ dX7_ofPaper_22
  · skip
    refine lv_iload_n hC.x hC.b dX7_ofPaper_4 rfl (lv_at hl 1 rfl) ?_
    refine lv_bipush (v := 6) hC.x hC.b dX7_ofPaper_5 (by decide) ?_
    refine bi_ge (tgt := 21) (a := wa.toInt) (b := 6) hC.x hC.b rfl rfl dX7_ofPaper_7 (by decide) (fun c_2 => ?_) (fun c_2 => ?_)
    · skip
      refine lv_iconst (v := (-1)) hC.x hC.b dX7_ofPaper_21 (by decide) ?_
      exact reti hC hK hR hS ⟨rfl, (by unfold ofP; first | (rw [if_pos (by omega)]; done) | (rw [if_neg (by omega)]; done))⟩ dX7_ofPaper_22
    · skip
      refine lv_iload_n hC.x hC.b dX7_ofPaper_10 rfl (lv_at hl 2 rfl) ?_
      refine bz_lt (tgt := 21) (a := hr.toInt) (b := 0) hC.x hC.b rfl rfl dX7_ofPaper_11 (by decide) (fun c_3 => ?_) (fun c_3 => ?_)
      · skip
        refine lv_iconst (v := (-1)) hC.x hC.b dX7_ofPaper_21 (by decide) ?_
        exact reti hC hK hR hS ⟨rfl, (by unfold ofP; first | (rw [if_pos (by omega)]; done) | (rw [if_neg (by omega)]; done))⟩ dX7_ofPaper_22
      · skip
        refine lv_iload_n hC.x hC.b dX7_ofPaper_14 rfl (lv_at hl 2 rfl) ?_
        refine lv_sipush (v := 200) hC.x hC.b dX7_ofPaper_15 (by decide) ?_
        refine bi_lt (tgt := 23) (a := hr.toInt) (b := 200) hC.x hC.b rfl rfl dX7_ofPaper_18 (by decide) (fun c_4 => ?_) (fun c_4 => ?_)
        · skip
          refine lv_aload_n hC.x hC.b dX7_ofPaper_23 rfl (lv_at hl 0 rfl) ?_
          refine rget hC hK hR (ct_told G _ _) rfl uin_X7 1 (by decide) TF_X7_16 rfl dX7_ofPaper_24 ?_
          refine lv_iload_n hC.x hC.b dX7_ofPaper_27 rfl (lv_at hl 1 rfl) ?_
          have hq_5 : wa.toInt.toNat < 6 := by omega
          refine aald (t0 := 4) hC hK hR (by decide) rfl (ct_paperRows G _ _) rfl (by omega) (by omega) rfl dX7_ofPaper_28 ?_
          refine lv_iload_n hC.x hC.b dX7_ofPaper_29 rfl (lv_at hl 2 rfl) ?_
          refine ald hC hK hR (ct_pr hq_5 G _ _) rfl (by omega) (by omega) rfl dX7_ofPaper_30 ?_
          exact reti hC hK hR hS ⟨rfl, (by unfold ofP; first | (rw [if_pos (by omega)]; done) | (rw [if_neg (by omega)]; done))⟩ dX7_ofPaper_31
        · skip
          refine lv_iconst (v := (-1)) hC.x hC.b dX7_ofPaper_21 (by decide) ?_
          exact reti hC hK hR hS ⟨rfl, (by unfold ofP; first | (rw [if_pos (by omega)]; done) | (rw [if_neg (by omega)]; done))⟩ dX7_ofPaper_22

abbrev po8_X9_paper (σ : SI) (τ : SL) (hr : Int32) (wa : Int32) : Int32 → SI × SL → Prop := fun v u => u = (σ, τ) ∧ (((v = (ofP σ wa hr))))
set_option maxRecDepth 100000 in
set_option maxHeartbeats 4000000 in
theorem c8_X9_paper (l : Launch) {G : Gx} {A : Nat → Prop} (hG : GOk G A) (σ : SI) (τ : SL) (hr : Int32) (wa : Int32) : MI l G A 1 yX9_paper cX9_paper 3 (some .int) [.ref (G.2.1 0), .int hr, .int wa] (σ, τ) (po8_X9_paper σ τ hr wa) := by
  refine met_of (own := RX9) (by decide +kernel) rfl [(0, .ref (G.2.1 0)), (1, .int hr), (2, .int wa)] rfl (Nat.le_of_ble_eq_true rfl) ?_
  intro p e s m args below meth c ls hC hK hR hl
  have hS : va_S A s.heap s.heap [] := va_S.rf
  refine lv_aload_n hC.x hC.b dX9_paper_0 rfl (lv_at hl 0 rfl) ?_
  refine rget hC hK hR (ct_bench G _ _) rfl uin_X9 1 (by decide) TF_X9_19 rfl dX9_paper_1 ?_
  refine lv_iload_n hC.x hC.b dX9_paper_4 rfl (lv_at hl 2 rfl) ?_
  refine lv_iload_n hC.x hC.b dX9_paper_5 rfl (lv_at hl 1 rfl) ?_
  refine goip (runV (As := [.int wa, .int hr]) (rest := []) hC hK hR hl.1 (c8_X7_ofPaper l hG σ τ wa hr ) (call_b hC.ts TC_X7_ofPaper TN_X7 TM_X9_260 hd_X7_ofPaper ⟨Nat.le_of_ble_eq_true rfl, Nat.le_of_ble_eq_true rfl⟩) TI_X7_ofPaper TS_X7_ofPaper (ct_told G _ _) rfl rfl rfl (Nat.le_of_ble_eq_true rfl) dX9_paper_6 ⟨Nat.le_of_ble_eq_true rfl, Nat.le_of_ble_eq_true rfl⟩) hS (fun v_1 H locs w_2 hR hS => ?_)
  subst w_2
  exact reti hC hK hR hS ⟨rfl, (by rfl)⟩ dX9_paper_9

abbrev po8_X10_paper (σ : SI) (τ : SL) (hr : Int32) (wa : Int32) : Int32 → SI × SL → Prop := fun v u => u = (σ, τ) ∧ (((v = (ofPM σ wa hr))))
set_option maxRecDepth 100000 in
set_option maxHeartbeats 4000000 in
theorem c8_X10_paper (l : Launch) {G : Gx} {A : Nat → Prop} (hG : GOk G A) (σ : SI) (τ : SL) (hr : Int32) (wa : Int32) (hnw : 0 ≤ (σ 35 29).toInt ∧ (σ 35 29).toInt ≤ 200) : MI l G A 1 yX10_paper cX10_paper 3 (some .int) [.ref (G.2.1 35), .int hr, .int wa] (σ, τ) (po8_X10_paper σ τ hr wa) := by
  refine met_of (own := RX10) (by decide +kernel) rfl [(0, .ref (G.2.1 35)), (1, .int hr), (2, .int wa)] rfl (Nat.le_of_ble_eq_true rfl) ?_
  intro p e s m args below meth c ls hC hK hR hl
  have hS : va_S A s.heap s.heap [] := va_S.rf
  refine lv_iload_n hC.x hC.b dX10_paper_0 rfl (lv_at hl 1 rfl) ?_
  refine lv_iconst (v := 0) hC.x hC.b dX10_paper_1 (by decide) ?_
  refine lv_aload_n hC.x hC.b dX10_paper_2 rfl (lv_at hl 0 rfl) ?_
  refine rget hC hK hR (ct_model G _ _) rfl uin_X10 29 (by decide) TF_X10_137 rfl dX10_paper_3 ?_
  refine lv_iconst (v := 1) hC.x hC.b dX10_paper_6 (by decide) ?_
  refine lv_isub hC.x hC.b dX10_paper_7 ?_
  have pr_1 : ((σ 35 29) - (1 : Int32)).toInt = ((σ 35 29).toInt - 1) := subI rfl rfl (by omega) (by omega)
  have av_2 : (0 : Int32).toInt = 0 := by decide
  have av_3 : ((σ 35 29) - (1 : Int32)).toInt = ((σ 35 29).toInt - 1) := pr_1
  refine goip (runS (As := [.int hr, .int (0 : Int32), .int ((σ 35 29) - (1 : Int32))]) (rest := []) hC hK hR hl.1 (c_X10_isIn l hG σ τ hr (0 : Int32) ((σ 35 29) - (1 : Int32)) ) (call_b hC.ts TC_X10_isIn TN_X10 TM_X10_129 hd_X10_isIn ⟨Nat.le_of_ble_eq_true rfl, Nat.le_of_ble_eq_true rfl⟩) TT_X10_isIn rfl rfl (Nat.le_of_ble_eq_true rfl) dX10_paper_8 ⟨Nat.le_of_ble_eq_true rfl, Nat.le_of_ble_eq_true rfl⟩) hS (fun v_4 H locs w_5 hR hS => ?_)
  rcases w_5 with ⟨rfl, f_6, f_7⟩ | ⟨rfl, f_8⟩
  · skip
    refine bz_eq (tgt := 24) (a := 1) (b := 0) hC.x hC.b rfl rfl dX10_paper_11 (by decide) (fun c_9 => absurd c_9 (by decide)) (fun _ => ?_)
    refine lv_aload_n hC.x hC.b dX10_paper_14 rfl (lv_at hl 0 rfl) ?_
    refine rget hC hK hR (ct_model G _ _) rfl uin_X10 23 (by decide) TF_X10_80 rfl dX10_paper_15 ?_
    refine lv_iload_n hC.x hC.b dX10_paper_18 rfl (lv_at hl 1 rfl) ?_
    refine ald hC hK hR (ct_m_roots G _ _) rfl (by omega) (by omega) rfl dX10_paper_19 ?_
    refine lv_iconst (v := (-1)) hC.x hC.b dX10_paper_20 (by decide) ?_
    refine bi_ne (tgt := 26) (a := (σ 59 hr.toInt.toNat).toInt) (b := (-1)) hC.x hC.b rfl rfl dX10_paper_21 (by decide) (fun c_10 => ?_) (fun c_10 => ?_)
    · skip
      refine lv_iload_n hC.x hC.b dX10_paper_26 rfl (lv_at hl 2 rfl) ?_
      have sw_11 : wa.toInt = 0 ∨ wa.toInt = 1 ∨ wa.toInt = 2 ∨ wa.toInt = 3 ∨ wa.toInt = 4 ∨ wa.toInt = 5 ∨ (wa.toInt < 0 ∨ 5 < wa.toInt) := by omega
      rcases sw_11 with sw_11 | sw_11 | sw_11 | sw_11 | sw_11 | sw_11 | sw_11
      · skip
        refine lv_tableIn (tgt := 64) hC.x hC.b dX10_paper_27 (by omega) (by omega) (by rw [sw_11]; rfl) (by decide) ?_
        refine lv_aload_n hC.x hC.b dX10_paper_64 rfl (lv_at hl 0 rfl) ?_
        refine rget hC hK hR (ct_model G _ _) rfl uin_X10 23 (by decide) TF_X10_80 rfl dX10_paper_65 ?_
        refine lv_iload_n hC.x hC.b dX10_paper_68 rfl (lv_at hl 1 rfl) ?_
        refine ald hC hK hR (ct_m_roots G _ _) rfl (by omega) (by omega) rfl dX10_paper_69 ?_
        exact reti hC hK hR hS ⟨rfl, (by unfold ofPM; repeat (first | rfl | rw [if_pos (by omega)] | rw [if_neg (by omega)]))⟩ dX10_paper_70
      · skip
        refine lv_tableIn (tgt := 71) hC.x hC.b dX10_paper_27 (by omega) (by omega) (by rw [sw_11]; rfl) (by decide) ?_
        refine lv_aload_n hC.x hC.b dX10_paper_71 rfl (lv_at hl 0 rfl) ?_
        refine rget hC hK hR (ct_model G _ _) rfl uin_X10 24 (by decide) TF_X10_83 rfl dX10_paper_72 ?_
        refine lv_iload_n hC.x hC.b dX10_paper_75 rfl (lv_at hl 1 rfl) ?_
        refine ald hC hK hR (ct_m_presents G _ _) rfl (by omega) (by omega) rfl dX10_paper_76 ?_
        exact reti hC hK hR hS ⟨rfl, (by unfold ofPM; repeat (first | rfl | rw [if_pos (by omega)] | rw [if_neg (by omega)]))⟩ dX10_paper_77
      · skip
        refine lv_tableIn (tgt := 78) hC.x hC.b dX10_paper_27 (by omega) (by omega) (by rw [sw_11]; rfl) (by decide) ?_
        refine lv_aload_n hC.x hC.b dX10_paper_78 rfl (lv_at hl 0 rfl) ?_
        refine rget hC hK hR (ct_model G _ _) rfl uin_X10 28 (by decide) TF_X10_95 rfl dX10_paper_79 ?_
        refine lv_iload_n hC.x hC.b dX10_paper_82 rfl (lv_at hl 1 rfl) ?_
        refine ald hC hK hR (ct_m_sums G _ _) rfl (by omega) (by omega) rfl dX10_paper_83 ?_
        exact reti hC hK hR hS ⟨rfl, (by unfold ofPM; repeat (first | rfl | rw [if_pos (by omega)] | rw [if_neg (by omega)]))⟩ dX10_paper_84
      · skip
        refine lv_tableIn (tgt := 85) hC.x hC.b dX10_paper_27 (by omega) (by omega) (by rw [sw_11]; rfl) (by decide) ?_
        refine lv_aload_n hC.x hC.b dX10_paper_85 rfl (lv_at hl 0 rfl) ?_
        refine rget hC hK hR (ct_model G _ _) rfl uin_X10 25 (by decide) TF_X10_86 rfl dX10_paper_86 ?_
        refine lv_iload_n hC.x hC.b dX10_paper_89 rfl (lv_at hl 1 rfl) ?_
        refine ald hC hK hR (ct_m_rests G _ _) rfl (by omega) (by omega) rfl dX10_paper_90 ?_
        exact reti hC hK hR hS ⟨rfl, (by unfold ofPM; repeat (first | rfl | rw [if_pos (by omega)] | rw [if_neg (by omega)]))⟩ dX10_paper_91
      · skip
        refine lv_tableIn (tgt := 92) hC.x hC.b dX10_paper_27 (by omega) (by omega) (by rw [sw_11]; rfl) (by decide) ?_
        refine lv_aload_n hC.x hC.b dX10_paper_92 rfl (lv_at hl 0 rfl) ?_
        refine rget hC hK hR (ct_model G _ _) rfl uin_X10 26 (by decide) TF_X10_89 rfl dX10_paper_93 ?_
        refine lv_iload_n hC.x hC.b dX10_paper_96 rfl (lv_at hl 1 rfl) ?_
        refine ald hC hK hR (ct_m_offs G _ _) rfl (by omega) (by omega) rfl dX10_paper_97 ?_
        exact reti hC hK hR hS ⟨rfl, (by unfold ofPM; repeat (first | rfl | rw [if_pos (by omega)] | rw [if_neg (by omega)]))⟩ dX10_paper_98
      · skip
        refine lv_tableIn (tgt := 99) hC.x hC.b dX10_paper_27 (by omega) (by omega) (by rw [sw_11]; rfl) (by decide) ?_
        refine lv_aload_n hC.x hC.b dX10_paper_99 rfl (lv_at hl 0 rfl) ?_
        refine rget hC hK hR (ct_model G _ _) rfl uin_X10 27 (by decide) TF_X10_92 rfl dX10_paper_100 ?_
        refine lv_iload_n hC.x hC.b dX10_paper_103 rfl (lv_at hl 1 rfl) ?_
        refine ald hC hK hR (ct_m_parts G _ _) rfl (by omega) (by omega) rfl dX10_paper_104 ?_
        exact reti hC hK hR hS ⟨rfl, (by unfold ofPM; repeat (first | rfl | rw [if_pos (by omega)] | rw [if_neg (by omega)]))⟩ dX10_paper_105
      · skip
        refine lv_tableOut (tgt := 106) hC.x hC.b dX10_paper_27 (by omega) (by decide) ?_
        refine lv_iconst (v := (-1)) hC.x hC.b dX10_paper_106 (by decide) ?_
        exact reti hC hK hR hS ⟨rfl, (by unfold ofPM; repeat (first | rfl | rw [if_pos (by omega)] | rw [if_neg (by omega)]))⟩ dX10_paper_107
    · skip
      refine lv_iconst (v := (-1)) hC.x hC.b dX10_paper_24 (by decide) ?_
      exact reti hC hK hR hS ⟨rfl, (by unfold ofPM; repeat (first | rfl | rw [if_pos (by omega)] | rw [if_neg (by omega)]))⟩ dX10_paper_25
  · skip
    refine bz_eq (tgt := 24) (a := 0) (b := 0) hC.x hC.b rfl rfl dX10_paper_11 (by decide) (fun _ => ?_) (fun c_12 => absurd c_12 (by decide))
    refine lv_iconst (v := (-1)) hC.x hC.b dX10_paper_24 (by decide) ?_
    exact reti hC hK hR hS ⟨rfl, (by unfold ofPM; repeat (first | rfl | rw [if_pos (by omega)] | rw [if_neg (by omega)]))⟩ dX10_paper_25

abbrev po8_X6_valueOf (σ : SI) (τ : SL) (ia : Int32) (wa : Int32) : Int32 → SI × SL → Prop := fun v u => u = (σ, τ) ∧ (((v = (ofS σ ia wa))))
set_option maxRecDepth 100000 in
set_option maxHeartbeats 4000000 in
theorem c8_X6_valueOf (l : Launch) {G : Gx} {A : Nat → Prop} (hG : GOk G A) (σ : SI) (τ : SL) (ia : Int32) (wa : Int32) : MI l G A 0 yX6_valueOf cX6_valueOf 3 (some .int) [.ref (G.2.1 8), .int ia, .int wa] (σ, τ) (po8_X6_valueOf σ τ ia wa) := by
  refine met_of (own := RX6) (by decide +kernel) rfl [(0, .ref (G.2.1 8)), (1, .int ia), (2, .int wa)] rfl (Nat.le_of_ble_eq_true rfl) ?_
  intro p e s m args below meth c ls hC hK hR hl
  have hS : va_S A s.heap s.heap [] := va_S.rf
  refine lv_iload_n hC.x hC.b dX6_valueOf_0 rfl (lv_at hl 1 rfl) ?_
  refine bz_lt (tgt := 18) (a := ia.toInt) (b := 0) hC.x hC.b rfl rfl dX6_valueOf_1 (by decide) (fun c_1 => ?_) (fun c_1 => ?_)
  · skip
    refine lv_iconst (v := (-1)) hC.x hC.b dX6_valueOf_18 (by decide) ?_
    exact reti hC hK hR hS ⟨rfl, (by unfold ofS; repeat (first | rfl | rw [if_pos (by omega)] | rw [if_neg (by omega)]))⟩ dX6_valueOf_19
  · skip
    refine lv_iload_n hC.x hC.b dX6_valueOf_4 rfl (lv_at hl 1 rfl) ?_
    refine lv_aload_n hC.x hC.b dX6_valueOf_5 rfl (lv_at hl 0 rfl) ?_
    refine rget hC hK hR (ct_steps G _ _) rfl uin_X6 3 (by decide) TF_X6_21 rfl dX6_valueOf_6 ?_
    refine bi_ge (tgt := 18) (a := ia.toInt) (b := (σ 8 3).toInt) hC.x hC.b rfl rfl dX6_valueOf_9 (by decide) (fun c_2 => ?_) (fun c_2 => ?_)
    · skip
      refine lv_iconst (v := (-1)) hC.x hC.b dX6_valueOf_18 (by decide) ?_
      exact reti hC hK hR hS ⟨rfl, (by unfold ofS; repeat (first | rfl | rw [if_pos (by omega)] | rw [if_neg (by omega)]))⟩ dX6_valueOf_19
    · skip
      refine lv_iload_n hC.x hC.b dX6_valueOf_12 rfl (lv_at hl 1 rfl) ?_
      refine lv_bipush (v := 100) hC.x hC.b dX6_valueOf_13 (by decide) ?_
      refine bi_lt (tgt := 20) (a := ia.toInt) (b := 100) hC.x hC.b rfl rfl dX6_valueOf_15 (by decide) (fun c_3 => ?_) (fun c_3 => ?_)
      · skip
        refine lv_iload_n hC.x hC.b dX6_valueOf_20 rfl (lv_at hl 2 rfl) ?_
        have sw_4 : wa.toInt = 0 ∨ wa.toInt = 1 ∨ wa.toInt = 2 ∨ (wa.toInt < 0 ∨ 2 < wa.toInt) := by omega
        rcases sw_4 with sw_4 | sw_4 | sw_4 | sw_4
        · skip
          refine lv_tableIn (tgt := 48) hC.x hC.b dX6_valueOf_21 (by omega) (by omega) (by rw [sw_4]; rfl) (by decide) ?_
          refine lv_aload_n hC.x hC.b dX6_valueOf_48 rfl (lv_at hl 0 rfl) ?_
          refine rget hC hK hR (ct_steps G _ _) rfl uin_X6 0 (by decide) TF_X6_9 rfl dX6_valueOf_49 ?_
          refine lv_iload_n hC.x hC.b dX6_valueOf_52 rfl (lv_at hl 1 rfl) ?_
          refine ald hC hK hR (ct_hours G _ _) rfl (by omega) (by omega) rfl dX6_valueOf_53 ?_
          exact reti hC hK hR hS ⟨rfl, (by unfold ofS; repeat (first | rfl | rw [if_pos (by omega)] | rw [if_neg (by omega)]))⟩ dX6_valueOf_54
        · skip
          refine lv_tableIn (tgt := 55) hC.x hC.b dX6_valueOf_21 (by omega) (by omega) (by rw [sw_4]; rfl) (by decide) ?_
          refine lv_aload_n hC.x hC.b dX6_valueOf_55 rfl (lv_at hl 0 rfl) ?_
          refine rget hC hK hR (ct_steps G _ _) rfl uin_X6 1 (by decide) TF_X6_15 rfl dX6_valueOf_56 ?_
          refine lv_iload_n hC.x hC.b dX6_valueOf_59 rfl (lv_at hl 1 rfl) ?_
          refine ald hC hK hR (ct_places G _ _) rfl (by omega) (by omega) rfl dX6_valueOf_60 ?_
          exact reti hC hK hR hS ⟨rfl, (by unfold ofS; repeat (first | rfl | rw [if_pos (by omega)] | rw [if_neg (by omega)]))⟩ dX6_valueOf_61
        · skip
          refine lv_tableIn (tgt := 62) hC.x hC.b dX6_valueOf_21 (by omega) (by omega) (by rw [sw_4]; rfl) (by decide) ?_
          refine lv_aload_n hC.x hC.b dX6_valueOf_62 rfl (lv_at hl 0 rfl) ?_
          refine rget hC hK hR (ct_steps G _ _) rfl uin_X6 2 (by decide) TF_X6_18 rfl dX6_valueOf_63 ?_
          refine lv_iload_n hC.x hC.b dX6_valueOf_66 rfl (lv_at hl 1 rfl) ?_
          refine ald hC hK hR (ct_misses G _ _) rfl (by omega) (by omega) rfl dX6_valueOf_67 ?_
          exact reti hC hK hR hS ⟨rfl, (by unfold ofS; repeat (first | rfl | rw [if_pos (by omega)] | rw [if_neg (by omega)]))⟩ dX6_valueOf_68
        · skip
          refine lv_tableOut (tgt := 69) hC.x hC.b dX6_valueOf_21 (by omega) (by decide) ?_
          refine lv_iconst (v := (-1)) hC.x hC.b dX6_valueOf_69 (by decide) ?_
          exact reti hC hK hR hS ⟨rfl, (by unfold ofS; repeat (first | rfl | rw [if_pos (by omega)] | rw [if_neg (by omega)]))⟩ dX6_valueOf_70
      · skip
        refine lv_iconst (v := (-1)) hC.x hC.b dX6_valueOf_18 (by decide) ?_
        exact reti hC hK hR hS ⟨rfl, (by unfold ofS; repeat (first | rfl | rw [if_pos (by omega)] | rw [if_neg (by omega)]))⟩ dX6_valueOf_19

abbrev po8_X9_step (σ : SI) (τ : SL) (ia : Int32) (wa : Int32) : Int32 → SI × SL → Prop := fun v u => u = (σ, τ) ∧ (((v = (ofS σ ia wa))))
set_option maxRecDepth 100000 in
set_option maxHeartbeats 4000000 in
theorem c8_X9_step (l : Launch) {G : Gx} {A : Nat → Prop} (hG : GOk G A) (σ : SI) (τ : SL) (ia : Int32) (wa : Int32) : MI l G A 1 yX9_step cX9_step 3 (some .int) [.ref (G.2.1 0), .int ia, .int wa] (σ, τ) (po8_X9_step σ τ ia wa) := by
  refine met_of (own := RX9) (by decide +kernel) rfl [(0, .ref (G.2.1 0)), (1, .int ia), (2, .int wa)] rfl (Nat.le_of_ble_eq_true rfl) ?_
  intro p e s m args below meth c ls hC hK hR hl
  have hS : va_S A s.heap s.heap [] := va_S.rf
  refine lv_aload_n hC.x hC.b dX9_step_0 rfl (lv_at hl 0 rfl) ?_
  refine rget hC hK hR (ct_bench G _ _) rfl uin_X9 2 (by decide) TF_X9_26 rfl dX9_step_1 ?_
  refine lv_iload_n hC.x hC.b dX9_step_4 rfl (lv_at hl 1 rfl) ?_
  refine lv_iload_n hC.x hC.b dX9_step_5 rfl (lv_at hl 2 rfl) ?_
  refine goip (runV (As := [.int ia, .int wa]) (rest := []) hC hK hR hl.1 (c8_X6_valueOf l hG σ τ ia wa ) (call_b hC.ts TC_X6_valueOf TN_X6 TM_X9_263 hd_X6_valueOf ⟨Nat.le_of_ble_eq_true rfl, Nat.le_of_ble_eq_true rfl⟩) TI_X6_valueOf TS_X6_valueOf (ct_steps G _ _) rfl rfl rfl (Nat.le_of_ble_eq_true rfl) dX9_step_6 ⟨Nat.le_of_ble_eq_true rfl, Nat.le_of_ble_eq_true rfl⟩) hS (fun v_1 H locs w_2 hR hS => ?_)
  subst w_2
  exact reti hC hK hR hS ⟨rfl, (by rfl)⟩ dX9_step_9

abbrev po8_X10_step (σ : SI) (τ : SL) (ia : Int32) (wa : Int32) : Int32 → SI × SL → Prop := fun v u => u = (σ, τ) ∧ (((v = (ofSM σ ia wa))))
set_option maxRecDepth 100000 in
set_option maxHeartbeats 4000000 in
theorem c8_X10_step (l : Launch) {G : Gx} {A : Nat → Prop} (hG : GOk G A) (σ : SI) (τ : SL) (ia : Int32) (wa : Int32) (hsn : 0 ≤ (σ 35 37).toInt ∧ (σ 35 37).toInt ≤ 100) : MI l G A 1 yX10_step cX10_step 3 (some .int) [.ref (G.2.1 35), .int ia, .int wa] (σ, τ) (po8_X10_step σ τ ia wa) := by
  refine met_of (own := RX10) (by decide +kernel) rfl [(0, .ref (G.2.1 35)), (1, .int ia), (2, .int wa)] rfl (Nat.le_of_ble_eq_true rfl) ?_
  intro p e s m args below meth c ls hC hK hR hl
  have hS : va_S A s.heap s.heap [] := va_S.rf
  refine lv_iload_n hC.x hC.b dX10_step_0 rfl (lv_at hl 1 rfl) ?_
  refine lv_iconst (v := 0) hC.x hC.b dX10_step_1 (by decide) ?_
  refine lv_aload_n hC.x hC.b dX10_step_2 rfl (lv_at hl 0 rfl) ?_
  refine rget hC hK hR (ct_model G _ _) rfl uin_X10 37 (by decide) TF_X10_254 rfl dX10_step_3 ?_
  refine lv_iconst (v := 1) hC.x hC.b dX10_step_6 (by decide) ?_
  refine lv_isub hC.x hC.b dX10_step_7 ?_
  have pr_1 : ((σ 35 37) - (1 : Int32)).toInt = ((σ 35 37).toInt - 1) := subI rfl rfl (by omega) (by omega)
  have av_2 : (0 : Int32).toInt = 0 := by decide
  have av_3 : ((σ 35 37) - (1 : Int32)).toInt = ((σ 35 37).toInt - 1) := pr_1
  refine goip (runS (As := [.int ia, .int (0 : Int32), .int ((σ 35 37) - (1 : Int32))]) (rest := []) hC hK hR hl.1 (c_X10_isIn l hG σ τ ia (0 : Int32) ((σ 35 37) - (1 : Int32)) ) (call_b hC.ts TC_X10_isIn TN_X10 TM_X10_129 hd_X10_isIn ⟨Nat.le_of_ble_eq_true rfl, Nat.le_of_ble_eq_true rfl⟩) TT_X10_isIn rfl rfl (Nat.le_of_ble_eq_true rfl) dX10_step_8 ⟨Nat.le_of_ble_eq_true rfl, Nat.le_of_ble_eq_true rfl⟩) hS (fun v_4 H locs w_5 hR hS => ?_)
  rcases w_5 with ⟨rfl, f_6, f_7⟩ | ⟨rfl, f_8⟩
  · skip
    refine bz_ne (tgt := 16) (a := 1) (b := 0) hC.x hC.b rfl rfl dX10_step_11 (by decide) (fun _ => ?_) (fun c_9 => absurd c_9 (by decide))
    refine lv_iload_n hC.x hC.b dX10_step_16 rfl (lv_at hl 2 rfl) ?_
    refine bz_ne (tgt := 29) (a := wa.toInt) (b := 0) hC.x hC.b rfl rfl dX10_step_17 (by decide) (fun c_10 => ?_) (fun c_10 => ?_)
    · skip
      refine lv_iload_n hC.x hC.b dX10_step_29 rfl (lv_at hl 2 rfl) ?_
      refine lv_iconst (v := 1) hC.x hC.b dX10_step_30 (by decide) ?_
      refine bi_ne (tgt := 43) (a := wa.toInt) (b := 1) hC.x hC.b rfl rfl dX10_step_31 (by decide) (fun c_11 => ?_) (fun c_11 => ?_)
      · skip
        refine lv_iload_n hC.x hC.b dX10_step_43 rfl (lv_at hl 2 rfl) ?_
        refine lv_iconst (v := 2) hC.x hC.b dX10_step_44 (by decide) ?_
        refine bi_ne (tgt := 57) (a := wa.toInt) (b := 2) hC.x hC.b rfl rfl dX10_step_45 (by decide) (fun c_12 => ?_) (fun c_12 => ?_)
        · skip
          refine lv_iconst (v := (-1)) hC.x hC.b dX10_step_57 (by decide) ?_
          exact reti hC hK hR hS ⟨rfl, (by unfold ofSM; repeat (first | rfl | rw [if_pos (by omega)] | rw [if_neg (by omega)]))⟩ dX10_step_58
        · skip
          refine lv_aload_n hC.x hC.b dX10_step_48 rfl (lv_at hl 0 rfl) ?_
          refine rget hC hK hR (ct_model G _ _) rfl uin_X10 36 (by decide) TF_X10_114 rfl dX10_step_49 ?_
          refine lv_iload_n hC.x hC.b dX10_step_52 rfl (lv_at hl 1 rfl) ?_
          refine ald hC hK hR (ct_m_stepMissed G _ _) rfl (by omega) (by omega) rfl dX10_step_53 ?_
          refine lv_goto (tgt := 58) hC.x hC.b dX10_step_54 (by decide) ?_
          exact reti hC hK hR hS ⟨rfl, (by unfold ofSM; repeat (first | rfl | rw [if_pos (by omega)] | rw [if_neg (by omega)]))⟩ dX10_step_58
      · skip
        refine lv_aload_n hC.x hC.b dX10_step_34 rfl (lv_at hl 0 rfl) ?_
        refine rget hC hK hR (ct_model G _ _) rfl uin_X10 35 (by decide) TF_X10_111 rfl dX10_step_35 ?_
        refine lv_iload_n hC.x hC.b dX10_step_38 rfl (lv_at hl 1 rfl) ?_
        refine ald hC hK hR (ct_m_stepPlace G _ _) rfl (by omega) (by omega) rfl dX10_step_39 ?_
        refine lv_goto (tgt := 58) hC.x hC.b dX10_step_40 (by decide) ?_
        exact reti hC hK hR hS ⟨rfl, (by unfold ofSM; repeat (first | rfl | rw [if_pos (by omega)] | rw [if_neg (by omega)]))⟩ dX10_step_58
    · skip
      refine lv_aload_n hC.x hC.b dX10_step_20 rfl (lv_at hl 0 rfl) ?_
      refine rget hC hK hR (ct_model G _ _) rfl uin_X10 34 (by decide) TF_X10_108 rfl dX10_step_21 ?_
      refine lv_iload_n hC.x hC.b dX10_step_24 rfl (lv_at hl 1 rfl) ?_
      refine ald hC hK hR (ct_m_stepHour G _ _) rfl (by omega) (by omega) rfl dX10_step_25 ?_
      refine lv_goto (tgt := 58) hC.x hC.b dX10_step_26 (by decide) ?_
      exact reti hC hK hR hS ⟨rfl, (by unfold ofSM; repeat (first | rfl | rw [if_pos (by omega)] | rw [if_neg (by omega)]))⟩ dX10_step_58
  · skip
    refine bz_ne (tgt := 16) (a := 0) (b := 0) hC.x hC.b rfl rfl dX10_step_11 (by decide) (fun c_13 => absurd c_13 (by decide)) (fun _ => ?_)
    refine lv_iconst (v := (-1)) hC.x hC.b dX10_step_14 (by decide) ?_
    exact reti hC hK hR hS ⟨rfl, (by unfold ofSM; repeat (first | rfl | rw [if_pos (by omega)] | rw [if_neg (by omega)]))⟩ dX10_step_15

abbrev po8_X9_clock (σ : SI) (τ : SL) (pl : Int32) (q : Nat) (wa : Int32) : Int32 → SI × SL → Prop := fun v u => u = (σ, τ) ∧ (((v = (-1)) ∧ ((¬ (0 ≤ pl.toInt ∧ pl.toInt < 24)) ∨ (σ 2 q).toInt = -1)) ∨ ((v = (-2)) ∧ (0 ≤ pl.toInt ∧ pl.toInt < 24) ∧ ((σ 2 q).toInt ≠ -1) ∧ (¬ (0 ≤ (σ 2 q).toInt ∧ (σ 2 q).toInt ≤ 3))) ∨ ((0 ≤ pl.toInt ∧ pl.toInt < 24) ∧ (0 ≤ (σ 2 q).toInt ∧ (σ 2 q).toInt ≤ 3) ∧ (CKV (TkC σ q) ((σ (80 + q) 9).toInt = (σ 0 8).toInt - 1) (σ (80 + q) 7) (cnX (xC σ 24 q) (σ 0 8).toInt.toNat) (σ (80 + q) 4) (σ (80 + q) 2) (σ (80 + q) 3) (σ (80 + q) 10) (σ (80 + q) 11) wa v)))
set_option maxRecDepth 100000 in
set_option maxHeartbeats 4000000 in
theorem c8_X9_clock (l : Launch) {G : Gx} {A : Nat → Prop} (hG : GOk G A) (σ : SI) (τ : SL) (pl : Int32) (q : Nat) (hp_q : pl.toInt.toNat = q) (wa : Int32) (hnow : 0 ≤ (σ 0 8).toInt ∧ (σ 0 8).toInt ≤ 200) (hk6 : HK6 σ (σ 0 8)) : MI l G A 3 yX9_clock cX9_clock 4 (some .int) [.ref (G.2.1 0), .int pl, .int wa] (σ, τ) (po8_X9_clock σ τ pl q wa) := by
  refine met_of (own := RX9) (by decide +kernel) rfl [(0, .ref (G.2.1 0)), (1, .int pl), (2, .int wa)] rfl (Nat.le_of_ble_eq_true rfl) ?_
  intro p e s m args below meth c ls hC hK hR hl
  have hS : va_S A s.heap s.heap [] := va_S.rf
  refine lv_aload_n hC.x hC.b dX9_clock_0 rfl (lv_at hl 0 rfl) ?_
  refine rget hC hK hR (ct_bench G _ _) rfl uin_X9 0 (by decide) TF_X9_10 rfl dX9_clock_1 ?_
  refine lv_iload_n hC.x hC.b dX9_clock_4 rfl (lv_at hl 1 rfl) ?_
  refine goqp (runV (As := [.int pl]) (rest := []) hC hK hR hl.1 (c_X5_clockAt l hG σ τ pl q (by first | rfl | (rw [show pl.toInt = pl.toInt from rfl]; done) | (rw [show pl.toInt = pl.toInt from rfl]; exact hp_q)) ) (call_b hC.ts TC_X5_clockAt TN_X5 TM_X9_169 hd_X5_clockAt ⟨Nat.le_of_ble_eq_true rfl, Nat.le_of_ble_eq_true rfl⟩) TI_X5_clockAt TS_X5_clockAt (ct_shelf G _ _) rfl rfl rfl (Nat.le_of_ble_eq_true rfl) dX9_clock_5 ⟨Nat.le_of_ble_eq_true rfl, Nat.le_of_ble_eq_true rfl⟩) hS (fun v_1 H locs w_2 hR hS => ?_)
  rcases w_2 with ⟨rfl, f_3⟩ | ⟨rfl, f_4, f_5, f_6, f_7⟩
  · skip
    refine lv_astore_nN (lv' := [(3, .null), (0, .ref (G.2.1 0)), (1, .int pl), (2, .int wa)]) hC.x hC.b dX9_clock_8 rfl hl (by decide) rfl (fun ls hl => ?_)
    refine lv_aload_nN hC.x hC.b dX9_clock_9 rfl (lv_at hl 0 rfl) ?_
    refine lv_ifnonnullN hC.x hC.b dX9_clock_10 ?_
    refine lv_aload_n hC.x hC.b dX9_clock_13 rfl (lv_at hl 1 rfl) ?_
    refine lv_iload_n hC.x hC.b dX9_clock_14 rfl (lv_at hl 2 rfl) ?_
    refine goip (runV (As := [.int pl]) (rest := []) hC hK hR hl.1 (c_X9_refusalAt l hG σ τ pl q (by first | rfl | (rw [show pl.toInt = pl.toInt from rfl]; done) | (rw [show pl.toInt = pl.toInt from rfl]; exact hp_q)) ) (call_b hC.ts TC_X9_refusalAt TN_X9 TM_X9_116 hd_X9_refusalAt ⟨Nat.le_of_ble_eq_true rfl, Nat.le_of_ble_eq_true rfl⟩) TI_X9_refusalAt TS_X9_refusalAt (ct_bench G _ _) rfl rfl rfl (Nat.le_of_ble_eq_true rfl) dX9_clock_15 ⟨Nat.le_of_ble_eq_true rfl, Nat.le_of_ble_eq_true rfl⟩) hS (fun v_8 H locs w_9 hR hS => ?_)
    rcases w_9 with ⟨rfl, f_10⟩ | ⟨rfl, f_11, f_12, f_13⟩
    · skip
      exact reti hC hK hR hS ⟨rfl, (by first | exact Or.inl (⟨by first | rfl | omega, by first | omega | assumption⟩) | exact Or.inr (Or.inr ((⟨by first | omega | assumption, by first | omega | assumption, by first | exact CKV.t (by omega) ⟨by omega, by omega, by omega, by omega⟩ | exact CKV.tn (by omega) (by rintro ⟨h1, h2, h3, h4⟩; omega) | exact CKV.o (by omega) (by omega) | exact CKV.on (by omega) (by omega) | exact CKV.s (by omega) (by omega) | exact CKV.sn' (by omega) (by omega) | exact CKV.c (by omega) rfl | exact CKV.g (by omega) | exact CKV.p (by omega) | exact CKV.r (by omega) | exact CKV.k (by omega) | exact CKV.d (by omega) | exact CKV.x (by omega)⟩))) | exact False.elim (by omega))⟩ dX9_clock_18
    · skip
      exact reti hC hK hR hS ⟨rfl, (by first | exact Or.inr (Or.inl (⟨by first | rfl | omega, by first | omega | assumption, by first | omega | assumption, by first | omega | assumption⟩)) | exact Or.inr (Or.inr ((⟨by first | omega | assumption, by first | omega | assumption, by first | exact CKV.t (by omega) ⟨by omega, by omega, by omega, by omega⟩ | exact CKV.tn (by omega) (by rintro ⟨h1, h2, h3, h4⟩; omega) | exact CKV.o (by omega) (by omega) | exact CKV.on (by omega) (by omega) | exact CKV.s (by omega) (by omega) | exact CKV.sn' (by omega) (by omega) | exact CKV.c (by omega) rfl | exact CKV.g (by omega) | exact CKV.p (by omega) | exact CKV.r (by omega) | exact CKV.k (by omega) | exact CKV.d (by omega) | exact CKV.x (by omega)⟩))) | exact False.elim (by omega))⟩ dX9_clock_18
  · skip
    have hq_14 : q < 24 := by omega
    refine lv_astore_n (lv' := [(3, .ref (G.2.1 (80 + q))), (0, .ref (G.2.1 0)), (1, .int pl), (2, .int wa)]) hC.x hC.b dX9_clock_8 rfl hl (by decide) rfl (fun ls hl => ?_)
    refine lv_aload_n hC.x hC.b dX9_clock_9 rfl (lv_at hl 0 rfl) ?_
    refine lv_ifnonnull (tgt := 19) hC.x hC.b dX9_clock_10 (by decide) ?_
    refine lv_iload_n hC.x hC.b dX9_clock_19 rfl (lv_at hl 3 rfl) ?_
    have sw_15 : wa.toInt = 0 ∨ wa.toInt = 1 ∨ wa.toInt = 2 ∨ wa.toInt = 3 ∨ wa.toInt = 4 ∨ wa.toInt = 5 ∨ wa.toInt = 6 ∨ wa.toInt = 7 ∨ wa.toInt = 8 ∨ (wa.toInt < 0 ∨ 8 < wa.toInt) := by omega
    rcases sw_15 with sw_15 | sw_15 | sw_15 | sw_15 | sw_15 | sw_15 | sw_15 | sw_15 | sw_15 | sw_15
    · skip
      refine lv_tableIn (tgt := 72) hC.x hC.b dX9_clock_20 (by omega) (by omega) (by rw [sw_15]; rfl) (by decide) ?_
      refine lv_aload_n hC.x hC.b dX9_clock_72 rfl (lv_at hl 0 rfl) ?_
      refine goip (runV (As := []) (rest := []) hC hK hR hl.1 (c_X0_isTaken l hG σ τ q hq_14 ) (call_b hC.ts TC_X0_isTaken TN_X0 TM_X9_204 hd_X0_isTaken ⟨Nat.le_of_ble_eq_true rfl, Nat.le_of_ble_eq_true rfl⟩) TI_X0_isTaken TS_X0_isTaken (ct_clock hq_14 G _ _) rfl rfl rfl (Nat.le_of_ble_eq_true rfl) dX9_clock_73 ⟨Nat.le_of_ble_eq_true rfl, Nat.le_of_ble_eq_true rfl⟩) hS (fun v_16 H locs w_17 hR hS => ?_)
      rcases w_17 with ⟨rfl, f_18, f_19⟩ | ⟨rfl, f_20⟩
      · skip
        refine bz_eq (tgt := 83) (a := 1) (b := 0) hC.x hC.b rfl rfl dX9_clock_76 (by decide) (fun c_21 => absurd c_21 (by decide)) (fun _ => ?_)
        refine lv_iconst (v := 1) hC.x hC.b dX9_clock_79 (by decide) ?_
        refine lv_goto (tgt := 84) hC.x hC.b dX9_clock_80 (by decide) ?_
        exact reti hC hK hR hS ⟨rfl, (by first | exact Or.inr (Or.inr ((⟨by first | omega | assumption, by first | omega | assumption, by first | exact CKV.t (by omega) ⟨by omega, by omega, by omega, by omega⟩ | exact CKV.tn (by omega) (by rintro ⟨h1, h2, h3, h4⟩; omega) | exact CKV.o (by omega) (by omega) | exact CKV.on (by omega) (by omega) | exact CKV.s (by omega) (by omega) | exact CKV.sn' (by omega) (by omega) | exact CKV.c (by omega) rfl | exact CKV.g (by omega) | exact CKV.p (by omega) | exact CKV.r (by omega) | exact CKV.k (by omega) | exact CKV.d (by omega) | exact CKV.x (by omega)⟩))) | exact False.elim (by omega))⟩ dX9_clock_84
      · skip
        refine bz_eq (tgt := 83) (a := 0) (b := 0) hC.x hC.b rfl rfl dX9_clock_76 (by decide) (fun _ => ?_) (fun c_22 => absurd c_22 (by decide))
        refine lv_iconst (v := 0) hC.x hC.b dX9_clock_83 (by decide) ?_
        exact reti hC hK hR hS ⟨rfl, (by first | exact Or.inr (Or.inr ((⟨by first | omega | assumption, by first | omega | assumption, by first | exact CKV.t (by omega) ⟨by omega, by omega, by omega, by omega⟩ | exact CKV.tn (by omega) (by rintro ⟨h1, h2, h3, h4⟩; omega) | exact CKV.o (by omega) (by omega) | exact CKV.on (by omega) (by omega) | exact CKV.s (by omega) (by omega) | exact CKV.sn' (by omega) (by omega) | exact CKV.c (by omega) rfl | exact CKV.g (by omega) | exact CKV.p (by omega) | exact CKV.r (by omega) | exact CKV.k (by omega) | exact CKV.d (by omega) | exact CKV.x (by omega)⟩))) | exact False.elim (by omega))⟩ dX9_clock_84
    · skip
      refine lv_tableIn (tgt := 85) hC.x hC.b dX9_clock_20 (by omega) (by omega) (by rw [sw_15]; rfl) (by decide) ?_
      refine lv_aload_n hC.x hC.b dX9_clock_85 rfl (lv_at hl 0 rfl) ?_
      refine rget hC hK hR (ct_clock hq_14 G _ _) rfl uin_X0 7 (by decide) TF_X9_207 rfl dX9_clock_86 ?_
      refine bz_eq (tgt := 96) (a := (σ (80 + q) 7).toInt) (b := 0) hC.x hC.b rfl rfl dX9_clock_89 (by decide) (fun c_23 => ?_) (fun c_23 => ?_)
      · skip
        refine lv_iconst (v := 0) hC.x hC.b dX9_clock_96 (by decide) ?_
        exact reti hC hK hR hS ⟨rfl, (by first | exact Or.inr (Or.inr ((⟨by first | omega | assumption, by first | omega | assumption, by first | exact CKV.t (by omega) ⟨by omega, by omega, by omega, by omega⟩ | exact CKV.tn (by omega) (by rintro ⟨h1, h2, h3, h4⟩; omega) | exact CKV.o (by omega) (by omega) | exact CKV.on (by omega) (by omega) | exact CKV.s (by omega) (by omega) | exact CKV.sn' (by omega) (by omega) | exact CKV.c (by omega) rfl | exact CKV.g (by omega) | exact CKV.p (by omega) | exact CKV.r (by omega) | exact CKV.k (by omega) | exact CKV.d (by omega) | exact CKV.x (by omega)⟩))) | exact False.elim (by omega))⟩ dX9_clock_97
      · skip
        refine lv_iconst (v := 1) hC.x hC.b dX9_clock_92 (by decide) ?_
        refine lv_goto (tgt := 97) hC.x hC.b dX9_clock_93 (by decide) ?_
        exact reti hC hK hR hS ⟨rfl, (by first | exact Or.inr (Or.inr ((⟨by first | omega | assumption, by first | omega | assumption, by first | exact CKV.t (by omega) ⟨by omega, by omega, by omega, by omega⟩ | exact CKV.tn (by omega) (by rintro ⟨h1, h2, h3, h4⟩; omega) | exact CKV.o (by omega) (by omega) | exact CKV.on (by omega) (by omega) | exact CKV.s (by omega) (by omega) | exact CKV.sn' (by omega) (by omega) | exact CKV.c (by omega) rfl | exact CKV.g (by omega) | exact CKV.p (by omega) | exact CKV.r (by omega) | exact CKV.k (by omega) | exact CKV.d (by omega) | exact CKV.x (by omega)⟩))) | exact False.elim (by omega))⟩ dX9_clock_97
    · skip
      refine lv_tableIn (tgt := 98) hC.x hC.b dX9_clock_20 (by omega) (by omega) (by rw [sw_15]; rfl) (by decide) ?_
      refine lv_aload_n hC.x hC.b dX9_clock_98 rfl (lv_at hl 0 rfl) ?_
      refine rget hC hK hR (ct_clock hq_14 G _ _) rfl uin_X0 9 (by decide) TF_X9_210 rfl dX9_clock_99 ?_
      refine lv_aload_n hC.x hC.b dX9_clock_102 rfl (lv_at hl 1 rfl) ?_
      refine rget hC hK hR (ct_bench G _ _) rfl uin_X9 8 (by decide) TF_X9_65 rfl dX9_clock_103 ?_
      refine lv_iconst (v := 1) hC.x hC.b dX9_clock_106 (by decide) ?_
      refine lv_isub hC.x hC.b dX9_clock_107 ?_
      have pr_24 : ((σ 0 8) - (1 : Int32)).toInt = ((σ 0 8).toInt - 1) := subI rfl rfl (by omega) (by omega)
      refine bi_ne (tgt := 115) (a := (σ (80 + q) 9).toInt) (b := ((σ 0 8).toInt - 1)) hC.x hC.b rfl pr_24 dX9_clock_108 (by decide) (fun c_25 => ?_) (fun c_25 => ?_)
      · skip
        refine lv_iconst (v := 0) hC.x hC.b dX9_clock_115 (by decide) ?_
        exact reti hC hK hR hS ⟨rfl, (by first | exact Or.inr (Or.inr ((⟨by first | omega | assumption, by first | omega | assumption, by first | exact CKV.t (by omega) ⟨by omega, by omega, by omega, by omega⟩ | exact CKV.tn (by omega) (by rintro ⟨h1, h2, h3, h4⟩; omega) | exact CKV.o (by omega) (by omega) | exact CKV.on (by omega) (by omega) | exact CKV.s (by omega) (by omega) | exact CKV.sn' (by omega) (by omega) | exact CKV.c (by omega) rfl | exact CKV.g (by omega) | exact CKV.p (by omega) | exact CKV.r (by omega) | exact CKV.k (by omega) | exact CKV.d (by omega) | exact CKV.x (by omega)⟩))) | exact False.elim (by omega))⟩ dX9_clock_116
      · skip
        refine lv_iconst (v := 1) hC.x hC.b dX9_clock_111 (by decide) ?_
        refine lv_goto (tgt := 116) hC.x hC.b dX9_clock_112 (by decide) ?_
        exact reti hC hK hR hS ⟨rfl, (by first | exact Or.inr (Or.inr ((⟨by first | omega | assumption, by first | omega | assumption, by first | exact CKV.t (by omega) ⟨by omega, by omega, by omega, by omega⟩ | exact CKV.tn (by omega) (by rintro ⟨h1, h2, h3, h4⟩; omega) | exact CKV.o (by omega) (by omega) | exact CKV.on (by omega) (by omega) | exact CKV.s (by omega) (by omega) | exact CKV.sn' (by omega) (by omega) | exact CKV.c (by omega) rfl | exact CKV.g (by omega) | exact CKV.p (by omega) | exact CKV.r (by omega) | exact CKV.k (by omega) | exact CKV.d (by omega) | exact CKV.x (by omega)⟩))) | exact False.elim (by omega))⟩ dX9_clock_116
    · skip
      refine lv_tableIn (tgt := 117) hC.x hC.b dX9_clock_20 (by omega) (by omega) (by rw [sw_15]; rfl) (by decide) ?_
      refine lv_aload_n hC.x hC.b dX9_clock_117 rfl (lv_at hl 1 rfl) ?_
      refine rget hC hK hR (ct_bench G _ _) rfl uin_X9 4 (by decide) TF_X9_44 rfl dX9_clock_118 ?_
      refine lv_aload_n hC.x hC.b dX9_clock_121 rfl (lv_at hl 0 rfl) ?_
      refine lv_aload_n hC.x hC.b dX9_clock_122 rfl (lv_at hl 1 rfl) ?_
      refine rget hC hK hR (ct_bench G _ _) rfl uin_X9 8 (by decide) TF_X9_65 rfl dX9_clock_123 ?_
      refine goip (runV (As := [.ref (G.2.1 (80 + q)), .int (σ 0 8)]) (rest := []) hC hK hR hl.1 (c5_X2_countXs l hG σ τ q hq_14 (σ 0 8) (by first | omega | assumption) (by exact hk6 q (by omega) ⟨by omega, by omega⟩)) (call_b hC.ts TC_X2_countXs TN_X2 TM_X9_213 hd_X2_countXs ⟨Nat.le_of_ble_eq_true rfl, Nat.le_of_ble_eq_true rfl⟩) TI_X2_countXs TS_X2_countXs (ct_fore G _ _) rfl rfl rfl (Nat.le_of_ble_eq_true rfl) dX9_clock_126 ⟨Nat.le_of_ble_eq_true rfl, Nat.le_of_ble_eq_true rfl⟩) hS (fun v_26 H locs w_27 hR hS => ?_)
      subst w_27
      exact reti hC hK hR hS ⟨rfl, (by first | exact Or.inl (⟨by first | rfl | omega, by first | omega | assumption⟩) | exact Or.inr (Or.inl (⟨by first | rfl | omega, by first | omega | assumption, by first | omega | assumption, by first | omega | assumption⟩)) | exact Or.inr (Or.inr ((⟨by first | omega | assumption, by first | omega | assumption, by first | exact CKV.t (by omega) ⟨by omega, by omega, by omega, by omega⟩ | exact CKV.tn (by omega) (by rintro ⟨h1, h2, h3, h4⟩; omega) | exact CKV.o (by omega) (by omega) | exact CKV.on (by omega) (by omega) | exact CKV.s (by omega) (by omega) | exact CKV.sn' (by omega) (by omega) | exact CKV.c (by omega) rfl | exact CKV.g (by omega) | exact CKV.p (by omega) | exact CKV.r (by omega) | exact CKV.k (by omega) | exact CKV.d (by omega) | exact CKV.x (by omega)⟩))) | exact False.elim (by omega))⟩ dX9_clock_129
    · skip
      refine lv_tableIn (tgt := 130) hC.x hC.b dX9_clock_20 (by omega) (by omega) (by rw [sw_15]; rfl) (by decide) ?_
      refine lv_aload_n hC.x hC.b dX9_clock_130 rfl (lv_at hl 0 rfl) ?_
      refine rget hC hK hR (ct_clock hq_14 G _ _) rfl uin_X0 4 (by decide) TF_X9_190 rfl dX9_clock_131 ?_
      exact reti hC hK hR hS ⟨rfl, (by first | exact Or.inl (⟨by first | rfl | omega, by first | omega | assumption⟩) | exact Or.inr (Or.inl (⟨by first | rfl | omega, by first | omega | assumption, by first | omega | assumption, by first | omega | assumption⟩)) | exact Or.inr (Or.inr ((⟨by first | omega | assumption, by first | omega | assumption, by first | exact CKV.t (by omega) ⟨by omega, by omega, by omega, by omega⟩ | exact CKV.tn (by omega) (by rintro ⟨h1, h2, h3, h4⟩; omega) | exact CKV.o (by omega) (by omega) | exact CKV.on (by omega) (by omega) | exact CKV.s (by omega) (by omega) | exact CKV.sn' (by omega) (by omega) | exact CKV.c (by omega) rfl | exact CKV.g (by omega) | exact CKV.p (by omega) | exact CKV.r (by omega) | exact CKV.k (by omega) | exact CKV.d (by omega) | exact CKV.x (by omega)⟩))) | exact False.elim (by omega))⟩ dX9_clock_134
    · skip
      refine lv_tableIn (tgt := 135) hC.x hC.b dX9_clock_20 (by omega) (by omega) (by rw [sw_15]; rfl) (by decide) ?_
      refine lv_aload_n hC.x hC.b dX9_clock_135 rfl (lv_at hl 0 rfl) ?_
      refine rget hC hK hR (ct_clock hq_14 G _ _) rfl uin_X0 2 (by decide) TF_X9_217 rfl dX9_clock_136 ?_
      exact reti hC hK hR hS ⟨rfl, (by first | exact Or.inl (⟨by first | rfl | omega, by first | omega | assumption⟩) | exact Or.inr (Or.inl (⟨by first | rfl | omega, by first | omega | assumption, by first | omega | assumption, by first | omega | assumption⟩)) | exact Or.inr (Or.inr ((⟨by first | omega | assumption, by first | omega | assumption, by first | exact CKV.t (by omega) ⟨by omega, by omega, by omega, by omega⟩ | exact CKV.tn (by omega) (by rintro ⟨h1, h2, h3, h4⟩; omega) | exact CKV.o (by omega) (by omega) | exact CKV.on (by omega) (by omega) | exact CKV.s (by omega) (by omega) | exact CKV.sn' (by omega) (by omega) | exact CKV.c (by omega) rfl | exact CKV.g (by omega) | exact CKV.p (by omega) | exact CKV.r (by omega) | exact CKV.k (by omega) | exact CKV.d (by omega) | exact CKV.x (by omega)⟩))) | exact False.elim (by omega))⟩ dX9_clock_139
    · skip
      refine lv_tableIn (tgt := 140) hC.x hC.b dX9_clock_20 (by omega) (by omega) (by rw [sw_15]; rfl) (by decide) ?_
      refine lv_aload_n hC.x hC.b dX9_clock_140 rfl (lv_at hl 0 rfl) ?_
      refine rget hC hK hR (ct_clock hq_14 G _ _) rfl uin_X0 3 (by decide) TF_X9_220 rfl dX9_clock_141 ?_
      exact reti hC hK hR hS ⟨rfl, (by first | exact Or.inl (⟨by first | rfl | omega, by first | omega | assumption⟩) | exact Or.inr (Or.inl (⟨by first | rfl | omega, by first | omega | assumption, by first | omega | assumption, by first | omega | assumption⟩)) | exact Or.inr (Or.inr ((⟨by first | omega | assumption, by first | omega | assumption, by first | exact CKV.t (by omega) ⟨by omega, by omega, by omega, by omega⟩ | exact CKV.tn (by omega) (by rintro ⟨h1, h2, h3, h4⟩; omega) | exact CKV.o (by omega) (by omega) | exact CKV.on (by omega) (by omega) | exact CKV.s (by omega) (by omega) | exact CKV.sn' (by omega) (by omega) | exact CKV.c (by omega) rfl | exact CKV.g (by omega) | exact CKV.p (by omega) | exact CKV.r (by omega) | exact CKV.k (by omega) | exact CKV.d (by omega) | exact CKV.x (by omega)⟩))) | exact False.elim (by omega))⟩ dX9_clock_144
    · skip
      refine lv_tableIn (tgt := 145) hC.x hC.b dX9_clock_20 (by omega) (by omega) (by rw [sw_15]; rfl) (by decide) ?_
      refine lv_aload_n hC.x hC.b dX9_clock_145 rfl (lv_at hl 0 rfl) ?_
      refine rget hC hK hR (ct_clock hq_14 G _ _) rfl uin_X0 10 (by decide) TF_X9_223 rfl dX9_clock_146 ?_
      exact reti hC hK hR hS ⟨rfl, (by first | exact Or.inl (⟨by first | rfl | omega, by first | omega | assumption⟩) | exact Or.inr (Or.inl (⟨by first | rfl | omega, by first | omega | assumption, by first | omega | assumption, by first | omega | assumption⟩)) | exact Or.inr (Or.inr ((⟨by first | omega | assumption, by first | omega | assumption, by first | exact CKV.t (by omega) ⟨by omega, by omega, by omega, by omega⟩ | exact CKV.tn (by omega) (by rintro ⟨h1, h2, h3, h4⟩; omega) | exact CKV.o (by omega) (by omega) | exact CKV.on (by omega) (by omega) | exact CKV.s (by omega) (by omega) | exact CKV.sn' (by omega) (by omega) | exact CKV.c (by omega) rfl | exact CKV.g (by omega) | exact CKV.p (by omega) | exact CKV.r (by omega) | exact CKV.k (by omega) | exact CKV.d (by omega) | exact CKV.x (by omega)⟩))) | exact False.elim (by omega))⟩ dX9_clock_149
    · skip
      refine lv_tableIn (tgt := 150) hC.x hC.b dX9_clock_20 (by omega) (by omega) (by rw [sw_15]; rfl) (by decide) ?_
      refine lv_aload_n hC.x hC.b dX9_clock_150 rfl (lv_at hl 0 rfl) ?_
      refine rget hC hK hR (ct_clock hq_14 G _ _) rfl uin_X0 11 (by decide) TF_X9_225 rfl dX9_clock_151 ?_
      exact reti hC hK hR hS ⟨rfl, (by first | exact Or.inl (⟨by first | rfl | omega, by first | omega | assumption⟩) | exact Or.inr (Or.inl (⟨by first | rfl | omega, by first | omega | assumption, by first | omega | assumption, by first | omega | assumption⟩)) | exact Or.inr (Or.inr ((⟨by first | omega | assumption, by first | omega | assumption, by first | exact CKV.t (by omega) ⟨by omega, by omega, by omega, by omega⟩ | exact CKV.tn (by omega) (by rintro ⟨h1, h2, h3, h4⟩; omega) | exact CKV.o (by omega) (by omega) | exact CKV.on (by omega) (by omega) | exact CKV.s (by omega) (by omega) | exact CKV.sn' (by omega) (by omega) | exact CKV.c (by omega) rfl | exact CKV.g (by omega) | exact CKV.p (by omega) | exact CKV.r (by omega) | exact CKV.k (by omega) | exact CKV.d (by omega) | exact CKV.x (by omega)⟩))) | exact False.elim (by omega))⟩ dX9_clock_154
    · skip
      refine lv_tableOut (tgt := 155) hC.x hC.b dX9_clock_20 (by omega) (by decide) ?_
      refine lv_iconst (v := (-1)) hC.x hC.b dX9_clock_155 (by decide) ?_
      exact reti hC hK hR hS ⟨rfl, (by first | exact Or.inl (⟨by first | rfl | omega, by first | omega | assumption⟩) | exact Or.inr (Or.inr ((⟨by first | omega | assumption, by first | omega | assumption, by first | exact CKV.t (by omega) ⟨by omega, by omega, by omega, by omega⟩ | exact CKV.tn (by omega) (by rintro ⟨h1, h2, h3, h4⟩; omega) | exact CKV.o (by omega) (by omega) | exact CKV.on (by omega) (by omega) | exact CKV.s (by omega) (by omega) | exact CKV.sn' (by omega) (by omega) | exact CKV.c (by omega) rfl | exact CKV.g (by omega) | exact CKV.p (by omega) | exact CKV.r (by omega) | exact CKV.k (by omega) | exact CKV.d (by omega) | exact CKV.x (by omega)⟩))) | exact False.elim (by omega))⟩ dX9_clock_156

abbrev po8_X10_clock (σ : SI) (τ : SL) (pl : Int32) (q : Nat) (wa : Int32) : Int32 → SI × SL → Prop := fun v u => u = (σ, τ) ∧ (((v = (-1)) ∧ (¬ (0 ≤ pl.toInt ∧ pl.toInt < 24) ∨ (σ 36 q).toInt = -1)) ∨ ((v = (-2)) ∧ (0 ≤ pl.toInt ∧ pl.toInt < 24) ∧ ((σ 36 q).toInt ≠ -1) ∧ (¬ (0 ≤ (σ 36 q).toInt ∧ (σ 36 q).toInt ≤ 3))) ∨ ((0 ≤ pl.toInt ∧ pl.toInt < 24) ∧ (0 ≤ (σ 36 q).toInt ∧ (σ 36 q).toInt ≤ 3) ∧ (CKV (TkM σ q) ((σ 44 q).toInt = (σ 35 29).toInt - 1) (σ 41 q) (cnX (pX σ q) (σ 35 29).toInt.toNat) (σ 42 q) (σ 37 q) (σ 38 q) (σ 45 q) (σ 46 q) wa v)))
set_option maxRecDepth 100000 in
set_option maxHeartbeats 4000000 in
theorem c8_X10_clock (l : Launch) {G : Gx} {A : Nat → Prop} (hG : GOk G A) (σ : SI) (τ : SL) (pl : Int32) (q : Nat) (hp_q : pl.toInt.toNat = q) (wa : Int32) (hnw : 0 ≤ (σ 35 29).toInt ∧ (σ 35 29).toInt ≤ 200) (hxb : XB σ) : MI l G A 3 yX10_clock cX10_clock 6 (some .int) [.ref (G.2.1 35), .int pl, .int wa] (σ, τ) (po8_X10_clock σ τ pl q wa) := by
  refine met_of (own := RX10) (by decide +kernel) rfl [(0, .ref (G.2.1 35)), (1, .int pl), (2, .int wa)] rfl (Nat.le_of_ble_eq_true rfl) ?_
  intro p e s m args below meth c ls hC hK hR hl
  have hS : va_S A s.heap s.heap [] := va_S.rf
  refine lv_aload_n hC.x hC.b dX10_clock_0 rfl (lv_at hl 0 rfl) ?_
  refine lv_iload_n hC.x hC.b dX10_clock_1 rfl (lv_at hl 1 rfl) ?_
  refine lv_iconst (v := 0) hC.x hC.b dX10_clock_2 (by decide) ?_
  refine lv_iconst (v := 3) hC.x hC.b dX10_clock_3 (by decide) ?_
  have av_1 : (0 : Int32).toInt = 0 := by decide
  have av_2 : (3 : Int32).toInt = 3 := by decide
  refine goip (runV (As := [.int pl, .int (0 : Int32), .int (3 : Int32)]) (rest := []) hC hK hR hl.1 (c_X10_fails l hG σ τ pl q (by first | rfl | (rw [show pl.toInt = pl.toInt from rfl]; done) | (rw [show pl.toInt = pl.toInt from rfl]; exact hp_q)) (0 : Int32) (3 : Int32) ) (call_b hC.ts TC_X10_fails TN_X10 TM_X10_144 hd_X10_fails ⟨Nat.le_of_ble_eq_true rfl, Nat.le_of_ble_eq_true rfl⟩) TI_X10_fails TS_X10_fails (ct_model G _ _) rfl rfl rfl (Nat.le_of_ble_eq_true rfl) dX10_clock_4 ⟨Nat.le_of_ble_eq_true rfl, Nat.le_of_ble_eq_true rfl⟩) hS (fun v_3 H locs w_4 hR hS => ?_)
  rcases w_4 with ⟨rfl, f_5⟩ | ⟨rfl, f_6, f_7, f_8⟩ | ⟨rfl, f_9, f_10, f_11⟩
  · skip
    refine lv_istore_n (lv' := [(3, .int (-1 : Int32)), (0, .ref (G.2.1 35)), (1, .int pl), (2, .int wa)]) hC.x hC.b dX10_clock_7 rfl hl (by decide) rfl (fun ls hl => ?_)
    refine lv_iload_n hC.x hC.b dX10_clock_8 rfl (lv_at hl 0 rfl) ?_
    refine bz_eq (tgt := 14) (a := (-1)) (b := 0) hC.x hC.b rfl rfl dX10_clock_9 (by decide) (fun c_12 => absurd c_12 (by decide)) (fun _ => ?_)
    refine lv_iload_n hC.x hC.b dX10_clock_12 rfl (lv_at hl 0 rfl) ?_
    exact reti hC hK hR hS ⟨rfl, (by first | exact Or.inl (⟨by first | rfl | omega, by first | omega | assumption⟩) | exact Or.inr (Or.inr ((⟨by first | omega | assumption, by first | omega | assumption, by (have h44 : (σ 35 29 - (1 : Int32)).toInt = (σ 35 29).toInt - 1 := subI rfl (show (1 : Int32).toInt = 1 from by decide) (by omega) (by omega)); first | exact CKV.t (by omega) ⟨by omega, by omega, by omega, by omega⟩ | exact CKV.tn (by omega) (by rintro ⟨h1, h2, h3, h4⟩; omega) | exact CKV.o (by omega) (by omega) | exact CKV.on (by omega) (by omega) | exact CKV.s (by omega) (by omega) | exact CKV.sn' (by omega) (by omega) | exact CKV.c (by omega) ((show n = (σ 35 29).toInt.toNat by omega) ▸ hi1_20) | exact CKV.g (by omega) | exact CKV.p (by omega) | exact CKV.r (by omega) | exact CKV.k (by omega) | exact CKV.d (by omega) | exact CKV.x (by omega)⟩))) | exact False.elim (by omega))⟩ dX10_clock_13
  · skip
    refine lv_istore_n (lv' := [(3, .int (0 : Int32)), (0, .ref (G.2.1 35)), (1, .int pl), (2, .int wa)]) hC.x hC.b dX10_clock_7 rfl hl (by decide) rfl (fun ls hl => ?_)
    refine lv_iload_n hC.x hC.b dX10_clock_8 rfl (lv_at hl 0 rfl) ?_
    refine bz_eq (tgt := 14) (a := 0) (b := 0) hC.x hC.b rfl rfl dX10_clock_9 (by decide) (fun _ => ?_) (fun c_13 => absurd c_13 (by decide))
    refine lv_iconst (v := 0) hC.x hC.b dX10_clock_14 (by decide) ?_
    refine lv_istore (lv' := [(4, .int (0 : Int32)), (3, .int (0 : Int32)), (0, .ref (G.2.1 35)), (1, .int pl), (2, .int wa)]) hC.x hC.b dX10_clock_15 hl (by decide) rfl (fun ls hl => ?_)
    refine lv_iconst (v := 0) hC.x hC.b dX10_clock_17 (by decide) ?_
    refine lv_istore (lv' := [(5, .int (0 : Int32)), (4, .int (0 : Int32)), (3, .int (0 : Int32)), (0, .ref (G.2.1 35)), (1, .int pl), (2, .int wa)]) hC.x hC.b dX10_clock_18 hl (by decide) rfl (fun ls hl => ?_)
    have L_20 : ∀ (F : Nat) (x4 : Int32) (n : Nat), (201 - n) < F → ((n : Int) ≤ (σ 35 29).toInt) → (x4 = cnX (pX σ q) n) → ∀ (H : Heap) (locs : List Loc) (ls : Array Slot), RepH G σ τ H → va_S A s.heap H locs → lv_has ls 6 [(0, .ref (G.2.1 35)), (1, .int pl), (2, .int wa), (3, .int (0 : Int32)), (4, .int x4), (5, .int (nI n))] → W p l e (rmD 3) s m args below meth c H locs 0 0 (MQ below (va_Qi (po8_X10_clock σ τ pl q wa) (BU G) A) args s 0 0 A) (F0 m 20 ls []) := by
      intro F
      induction F with
      | zero => intro x4 n hm; exact absurd hm (Nat.not_lt_zero _)
      | succ F ih_20 =>
        intro x4 n hm_20 hi0_20 hi1_20 H locs ls hR hS hl
        have hnI := nI_T n (by omega)
        refine lv_iload hC.x hC.b dX10_clock_20 (lv_at hl 5 rfl) ?_
        refine lv_aload_n hC.x hC.b dX10_clock_22 rfl (lv_at hl 0 rfl) ?_
        refine rget hC hK hR (ct_model G _ _) rfl uin_X10 29 (by decide) TF_X10_137 rfl dX10_clock_23 ?_
        refine bi_ge (tgt := 55) (a := (n : Int)) (b := (σ 35 29).toInt) hC.x hC.b (nI_T n (by omega)) rfl dX10_clock_26 (by decide) (fun c_14 => ?_) (fun c_14 => ?_)
        · skip
          refine lv_iload_n hC.x hC.b dX10_clock_55 rfl (lv_at hl 2 rfl) ?_
          have sw_15 : wa.toInt = 0 ∨ wa.toInt = 1 ∨ wa.toInt = 2 ∨ wa.toInt = 3 ∨ wa.toInt = 4 ∨ wa.toInt = 5 ∨ wa.toInt = 6 ∨ wa.toInt = 7 ∨ wa.toInt = 8 ∨ (wa.toInt < 0 ∨ 8 < wa.toInt) := by omega
          rcases sw_15 with sw_15 | sw_15 | sw_15 | sw_15 | sw_15 | sw_15 | sw_15 | sw_15 | sw_15 | sw_15
          · skip
            refine lv_tableIn (tgt := 108) hC.x hC.b dX10_clock_56 (by omega) (by omega) (by rw [sw_15]; rfl) (by decide) ?_
            refine lv_aload_n hC.x hC.b dX10_clock_108 rfl (lv_at hl 0 rfl) ?_
            refine lv_iload_n hC.x hC.b dX10_clock_109 rfl (lv_at hl 1 rfl) ?_
            refine goip (runV (As := [.int pl]) (rest := []) hC hK hR hl.1 (c_X10_isTaken l hG σ τ pl q (by first | rfl | (rw [show pl.toInt = pl.toInt from rfl]; done) | (rw [show pl.toInt = pl.toInt from rfl]; exact hp_q)) ) (call_b hC.ts TC_X10_isTaken TN_X10 TM_X10_219 hd_X10_isTaken ⟨Nat.le_of_ble_eq_true rfl, Nat.le_of_ble_eq_true rfl⟩) TI_X10_isTaken TS_X10_isTaken (ct_model G _ _) rfl rfl rfl (Nat.le_of_ble_eq_true rfl) dX10_clock_110 ⟨Nat.le_of_ble_eq_true rfl, Nat.le_of_ble_eq_true rfl⟩) hS (fun v_16 H locs w_17 hR hS => ?_)
            rcases w_17 with ⟨rfl, f_18, f_19, f_20, f_21⟩ | ⟨rfl, f_22⟩
            · skip
              refine bz_eq (tgt := 120) (a := 1) (b := 0) hC.x hC.b rfl rfl dX10_clock_113 (by decide) (fun c_23 => absurd c_23 (by decide)) (fun _ => ?_)
              refine lv_iconst (v := 1) hC.x hC.b dX10_clock_116 (by decide) ?_
              refine lv_goto (tgt := 121) hC.x hC.b dX10_clock_117 (by decide) ?_
              exact reti hC hK hR hS ⟨rfl, (by first | exact Or.inr (Or.inr ((⟨by first | omega | assumption, by first | omega | assumption, by (have h44 : (σ 35 29 - (1 : Int32)).toInt = (σ 35 29).toInt - 1 := subI rfl (show (1 : Int32).toInt = 1 from by decide) (by omega) (by omega)); first | exact CKV.t (by omega) ⟨by omega, by omega, by omega, by omega⟩ | exact CKV.tn (by omega) (by rintro ⟨h1, h2, h3, h4⟩; omega) | exact CKV.o (by omega) (by omega) | exact CKV.on (by omega) (by omega) | exact CKV.s (by omega) (by omega) | exact CKV.sn' (by omega) (by omega) | exact CKV.c (by omega) ((show n = (σ 35 29).toInt.toNat by omega) ▸ hi1_20) | exact CKV.g (by omega) | exact CKV.p (by omega) | exact CKV.r (by omega) | exact CKV.k (by omega) | exact CKV.d (by omega) | exact CKV.x (by omega)⟩))) | exact False.elim (by omega))⟩ dX10_clock_121
            · skip
              refine bz_eq (tgt := 120) (a := 0) (b := 0) hC.x hC.b rfl rfl dX10_clock_113 (by decide) (fun _ => ?_) (fun c_24 => absurd c_24 (by decide))
              refine lv_iconst (v := 0) hC.x hC.b dX10_clock_120 (by decide) ?_
              exact reti hC hK hR hS ⟨rfl, (by first | exact Or.inr (Or.inr ((⟨by first | omega | assumption, by first | omega | assumption, by (have h44 : (σ 35 29 - (1 : Int32)).toInt = (σ 35 29).toInt - 1 := subI rfl (show (1 : Int32).toInt = 1 from by decide) (by omega) (by omega)); first | exact CKV.t (by omega) ⟨by omega, by omega, by omega, by omega⟩ | exact CKV.tn (by omega) (by rintro ⟨h1, h2, h3, h4⟩; omega) | exact CKV.o (by omega) (by omega) | exact CKV.on (by omega) (by omega) | exact CKV.s (by omega) (by omega) | exact CKV.sn' (by omega) (by omega) | exact CKV.c (by omega) ((show n = (σ 35 29).toInt.toNat by omega) ▸ hi1_20) | exact CKV.g (by omega) | exact CKV.p (by omega) | exact CKV.r (by omega) | exact CKV.k (by omega) | exact CKV.d (by omega) | exact CKV.x (by omega)⟩))) | exact False.elim (by omega))⟩ dX10_clock_121
          · skip
            refine lv_tableIn (tgt := 122) hC.x hC.b dX10_clock_56 (by omega) (by omega) (by rw [sw_15]; rfl) (by decide) ?_
            refine lv_aload_n hC.x hC.b dX10_clock_122 rfl (lv_at hl 0 rfl) ?_
            refine rget hC hK hR (ct_model G _ _) rfl uin_X10 5 (by decide) TF_X10_26 rfl dX10_clock_123 ?_
            refine lv_iload_n hC.x hC.b dX10_clock_126 rfl (lv_at hl 1 rfl) ?_
            refine zald hC hK hR (ct_m_isOut G _ _) rfl (by omega) (by omega) hp_q dX10_clock_127 ?_
            refine bz_eq (tgt := 135) (a := (σ 41 q).toInt) (b := 0) hC.x hC.b rfl rfl dX10_clock_128 (by decide) (fun c_25 => ?_) (fun c_25 => ?_)
            · skip
              refine lv_iconst (v := 0) hC.x hC.b dX10_clock_135 (by decide) ?_
              exact reti hC hK hR hS ⟨rfl, (by first | exact Or.inr (Or.inr ((⟨by first | omega | assumption, by first | omega | assumption, by (have h44 : (σ 35 29 - (1 : Int32)).toInt = (σ 35 29).toInt - 1 := subI rfl (show (1 : Int32).toInt = 1 from by decide) (by omega) (by omega)); first | exact CKV.t (by omega) ⟨by omega, by omega, by omega, by omega⟩ | exact CKV.tn (by omega) (by rintro ⟨h1, h2, h3, h4⟩; omega) | exact CKV.o (by omega) (by omega) | exact CKV.on (by omega) (by omega) | exact CKV.s (by omega) (by omega) | exact CKV.sn' (by omega) (by omega) | exact CKV.c (by omega) ((show n = (σ 35 29).toInt.toNat by omega) ▸ hi1_20) | exact CKV.g (by omega) | exact CKV.p (by omega) | exact CKV.r (by omega) | exact CKV.k (by omega) | exact CKV.d (by omega) | exact CKV.x (by omega)⟩))) | exact False.elim (by omega))⟩ dX10_clock_136
            · skip
              refine lv_iconst (v := 1) hC.x hC.b dX10_clock_131 (by decide) ?_
              refine lv_goto (tgt := 136) hC.x hC.b dX10_clock_132 (by decide) ?_
              exact reti hC hK hR hS ⟨rfl, (by first | exact Or.inr (Or.inr ((⟨by first | omega | assumption, by first | omega | assumption, by (have h44 : (σ 35 29 - (1 : Int32)).toInt = (σ 35 29).toInt - 1 := subI rfl (show (1 : Int32).toInt = 1 from by decide) (by omega) (by omega)); first | exact CKV.t (by omega) ⟨by omega, by omega, by omega, by omega⟩ | exact CKV.tn (by omega) (by rintro ⟨h1, h2, h3, h4⟩; omega) | exact CKV.o (by omega) (by omega) | exact CKV.on (by omega) (by omega) | exact CKV.s (by omega) (by omega) | exact CKV.sn' (by omega) (by omega) | exact CKV.c (by omega) ((show n = (σ 35 29).toInt.toNat by omega) ▸ hi1_20) | exact CKV.g (by omega) | exact CKV.p (by omega) | exact CKV.r (by omega) | exact CKV.k (by omega) | exact CKV.d (by omega) | exact CKV.x (by omega)⟩))) | exact False.elim (by omega))⟩ dX10_clock_136
          · skip
            refine lv_tableIn (tgt := 137) hC.x hC.b dX10_clock_56 (by omega) (by omega) (by rw [sw_15]; rfl) (by decide) ?_
            refine lv_aload_n hC.x hC.b dX10_clock_137 rfl (lv_at hl 0 rfl) ?_
            refine rget hC hK hR (ct_model G _ _) rfl uin_X10 8 (by decide) TF_X10_35 rfl dX10_clock_138 ?_
            refine lv_iload_n hC.x hC.b dX10_clock_141 rfl (lv_at hl 1 rfl) ?_
            refine ald hC hK hR (ct_m_suspect G _ _) rfl (by omega) (by omega) hp_q dX10_clock_142 ?_
            refine lv_aload_n hC.x hC.b dX10_clock_143 rfl (lv_at hl 0 rfl) ?_
            refine rget hC hK hR (ct_model G _ _) rfl uin_X10 29 (by decide) TF_X10_137 rfl dX10_clock_144 ?_
            refine lv_iconst (v := 1) hC.x hC.b dX10_clock_147 (by decide) ?_
            refine lv_isub hC.x hC.b dX10_clock_148 ?_
            refine bi_ne (tgt := 156) (a := (σ 44 q).toInt) (b := ((σ 35 29) - (1 : Int32)).toInt) hC.x hC.b rfl rfl dX10_clock_149 (by decide) (fun c_26 => ?_) (fun c_26 => ?_)
            · skip
              refine lv_iconst (v := 0) hC.x hC.b dX10_clock_156 (by decide) ?_
              exact reti hC hK hR hS ⟨rfl, (by first | exact Or.inr (Or.inr ((⟨by first | omega | assumption, by first | omega | assumption, by (have h44 : (σ 35 29 - (1 : Int32)).toInt = (σ 35 29).toInt - 1 := subI rfl (show (1 : Int32).toInt = 1 from by decide) (by omega) (by omega)); first | exact CKV.t (by omega) ⟨by omega, by omega, by omega, by omega⟩ | exact CKV.tn (by omega) (by rintro ⟨h1, h2, h3, h4⟩; omega) | exact CKV.o (by omega) (by omega) | exact CKV.on (by omega) (by omega) | exact CKV.s (by omega) (by omega) | exact CKV.sn' (by omega) (by omega) | exact CKV.c (by omega) ((show n = (σ 35 29).toInt.toNat by omega) ▸ hi1_20) | exact CKV.g (by omega) | exact CKV.p (by omega) | exact CKV.r (by omega) | exact CKV.k (by omega) | exact CKV.d (by omega) | exact CKV.x (by omega)⟩))) | exact False.elim (by omega))⟩ dX10_clock_157
            · skip
              refine lv_iconst (v := 1) hC.x hC.b dX10_clock_152 (by decide) ?_
              refine lv_goto (tgt := 157) hC.x hC.b dX10_clock_153 (by decide) ?_
              exact reti hC hK hR hS ⟨rfl, (by first | exact Or.inr (Or.inr ((⟨by first | omega | assumption, by first | omega | assumption, by (have h44 : (σ 35 29 - (1 : Int32)).toInt = (σ 35 29).toInt - 1 := subI rfl (show (1 : Int32).toInt = 1 from by decide) (by omega) (by omega)); first | exact CKV.t (by omega) ⟨by omega, by omega, by omega, by omega⟩ | exact CKV.tn (by omega) (by rintro ⟨h1, h2, h3, h4⟩; omega) | exact CKV.o (by omega) (by omega) | exact CKV.on (by omega) (by omega) | exact CKV.s (by omega) (by omega) | exact CKV.sn' (by omega) (by omega) | exact CKV.c (by omega) ((show n = (σ 35 29).toInt.toNat by omega) ▸ hi1_20) | exact CKV.g (by omega) | exact CKV.p (by omega) | exact CKV.r (by omega) | exact CKV.k (by omega) | exact CKV.d (by omega) | exact CKV.x (by omega)⟩))) | exact False.elim (by omega))⟩ dX10_clock_157
          · skip
            refine lv_tableIn (tgt := 158) hC.x hC.b dX10_clock_56 (by omega) (by omega) (by rw [sw_15]; rfl) (by decide) ?_
            refine lv_iload hC.x hC.b dX10_clock_158 (lv_at hl 4 rfl) ?_
            exact reti hC hK hR hS ⟨rfl, (by first | exact Or.inl (⟨by first | rfl | omega, by first | omega | assumption⟩) | exact Or.inr (Or.inl (⟨by first | rfl | omega, by first | omega | assumption, by first | omega | assumption, by first | omega | assumption⟩)) | exact Or.inr (Or.inr ((⟨by first | omega | assumption, by first | omega | assumption, by (have h44 : (σ 35 29 - (1 : Int32)).toInt = (σ 35 29).toInt - 1 := subI rfl (show (1 : Int32).toInt = 1 from by decide) (by omega) (by omega)); first | exact CKV.t (by omega) ⟨by omega, by omega, by omega, by omega⟩ | exact CKV.tn (by omega) (by rintro ⟨h1, h2, h3, h4⟩; omega) | exact CKV.o (by omega) (by omega) | exact CKV.on (by omega) (by omega) | exact CKV.s (by omega) (by omega) | exact CKV.sn' (by omega) (by omega) | exact CKV.c (by omega) ((show n = (σ 35 29).toInt.toNat by omega) ▸ hi1_20) | exact CKV.g (by omega) | exact CKV.p (by omega) | exact CKV.r (by omega) | exact CKV.k (by omega) | exact CKV.d (by omega) | exact CKV.x (by omega)⟩))) | exact False.elim (by omega))⟩ dX10_clock_160
          · skip
            refine lv_tableIn (tgt := 161) hC.x hC.b dX10_clock_56 (by omega) (by omega) (by rw [sw_15]; rfl) (by decide) ?_
            refine lv_aload_n hC.x hC.b dX10_clock_161 rfl (lv_at hl 0 rfl) ?_
            refine rget hC hK hR (ct_model G _ _) rfl uin_X10 6 (by decide) TF_X10_29 rfl dX10_clock_162 ?_
            refine lv_iload_n hC.x hC.b dX10_clock_165 rfl (lv_at hl 1 rfl) ?_
            refine ald hC hK hR (ct_m_setting G _ _) rfl (by omega) (by omega) hp_q dX10_clock_166 ?_
            exact reti hC hK hR hS ⟨rfl, (by first | exact Or.inl (⟨by first | rfl | omega, by first | omega | assumption⟩) | exact Or.inr (Or.inl (⟨by first | rfl | omega, by first | omega | assumption, by first | omega | assumption, by first | omega | assumption⟩)) | exact Or.inr (Or.inr ((⟨by first | omega | assumption, by first | omega | assumption, by (have h44 : (σ 35 29 - (1 : Int32)).toInt = (σ 35 29).toInt - 1 := subI rfl (show (1 : Int32).toInt = 1 from by decide) (by omega) (by omega)); first | exact CKV.t (by omega) ⟨by omega, by omega, by omega, by omega⟩ | exact CKV.tn (by omega) (by rintro ⟨h1, h2, h3, h4⟩; omega) | exact CKV.o (by omega) (by omega) | exact CKV.on (by omega) (by omega) | exact CKV.s (by omega) (by omega) | exact CKV.sn' (by omega) (by omega) | exact CKV.c (by omega) ((show n = (σ 35 29).toInt.toNat by omega) ▸ hi1_20) | exact CKV.g (by omega) | exact CKV.p (by omega) | exact CKV.r (by omega) | exact CKV.k (by omega) | exact CKV.d (by omega) | exact CKV.x (by omega)⟩))) | exact False.elim (by omega))⟩ dX10_clock_167
          · skip
            refine lv_tableIn (tgt := 168) hC.x hC.b dX10_clock_56 (by omega) (by omega) (by rw [sw_15]; rfl) (by decide) ?_
            refine lv_aload_n hC.x hC.b dX10_clock_168 rfl (lv_at hl 0 rfl) ?_
            refine rget hC hK hR (ct_model G _ _) rfl uin_X10 1 (by decide) TF_X10_13 rfl dX10_clock_169 ?_
            refine lv_iload_n hC.x hC.b dX10_clock_172 rfl (lv_at hl 1 rfl) ?_
            refine ald hC hK hR (ct_m_one G _ _) rfl (by omega) (by omega) hp_q dX10_clock_173 ?_
            exact reti hC hK hR hS ⟨rfl, (by first | exact Or.inl (⟨by first | rfl | omega, by first | omega | assumption⟩) | exact Or.inr (Or.inl (⟨by first | rfl | omega, by first | omega | assumption, by first | omega | assumption, by first | omega | assumption⟩)) | exact Or.inr (Or.inr ((⟨by first | omega | assumption, by first | omega | assumption, by (have h44 : (σ 35 29 - (1 : Int32)).toInt = (σ 35 29).toInt - 1 := subI rfl (show (1 : Int32).toInt = 1 from by decide) (by omega) (by omega)); first | exact CKV.t (by omega) ⟨by omega, by omega, by omega, by omega⟩ | exact CKV.tn (by omega) (by rintro ⟨h1, h2, h3, h4⟩; omega) | exact CKV.o (by omega) (by omega) | exact CKV.on (by omega) (by omega) | exact CKV.s (by omega) (by omega) | exact CKV.sn' (by omega) (by omega) | exact CKV.c (by omega) ((show n = (σ 35 29).toInt.toNat by omega) ▸ hi1_20) | exact CKV.g (by omega) | exact CKV.p (by omega) | exact CKV.r (by omega) | exact CKV.k (by omega) | exact CKV.d (by omega) | exact CKV.x (by omega)⟩))) | exact False.elim (by omega))⟩ dX10_clock_174
          · skip
            refine lv_tableIn (tgt := 175) hC.x hC.b dX10_clock_56 (by omega) (by omega) (by rw [sw_15]; rfl) (by decide) ?_
            refine lv_aload_n hC.x hC.b dX10_clock_175 rfl (lv_at hl 0 rfl) ?_
            refine rget hC hK hR (ct_model G _ _) rfl uin_X10 2 (by decide) TF_X10_16 rfl dX10_clock_176 ?_
            refine lv_iload_n hC.x hC.b dX10_clock_179 rfl (lv_at hl 1 rfl) ?_
            refine ald hC hK hR (ct_m_two G _ _) rfl (by omega) (by omega) hp_q dX10_clock_180 ?_
            exact reti hC hK hR hS ⟨rfl, (by first | exact Or.inl (⟨by first | rfl | omega, by first | omega | assumption⟩) | exact Or.inr (Or.inl (⟨by first | rfl | omega, by first | omega | assumption, by first | omega | assumption, by first | omega | assumption⟩)) | exact Or.inr (Or.inr ((⟨by first | omega | assumption, by first | omega | assumption, by (have h44 : (σ 35 29 - (1 : Int32)).toInt = (σ 35 29).toInt - 1 := subI rfl (show (1 : Int32).toInt = 1 from by decide) (by omega) (by omega)); first | exact CKV.t (by omega) ⟨by omega, by omega, by omega, by omega⟩ | exact CKV.tn (by omega) (by rintro ⟨h1, h2, h3, h4⟩; omega) | exact CKV.o (by omega) (by omega) | exact CKV.on (by omega) (by omega) | exact CKV.s (by omega) (by omega) | exact CKV.sn' (by omega) (by omega) | exact CKV.c (by omega) ((show n = (σ 35 29).toInt.toNat by omega) ▸ hi1_20) | exact CKV.g (by omega) | exact CKV.p (by omega) | exact CKV.r (by omega) | exact CKV.k (by omega) | exact CKV.d (by omega) | exact CKV.x (by omega)⟩))) | exact False.elim (by omega))⟩ dX10_clock_181
          · skip
            refine lv_tableIn (tgt := 182) hC.x hC.b dX10_clock_56 (by omega) (by omega) (by rw [sw_15]; rfl) (by decide) ?_
            refine lv_aload_n hC.x hC.b dX10_clock_182 rfl (lv_at hl 0 rfl) ?_
            refine rget hC hK hR (ct_model G _ _) rfl uin_X10 9 (by decide) TF_X10_38 rfl dX10_clock_183 ?_
            refine lv_iload_n hC.x hC.b dX10_clock_186 rfl (lv_at hl 1 rfl) ?_
            refine ald hC hK hR (ct_m_stepMany G _ _) rfl (by omega) (by omega) hp_q dX10_clock_187 ?_
            exact reti hC hK hR hS ⟨rfl, (by first | exact Or.inl (⟨by first | rfl | omega, by first | omega | assumption⟩) | exact Or.inr (Or.inl (⟨by first | rfl | omega, by first | omega | assumption, by first | omega | assumption, by first | omega | assumption⟩)) | exact Or.inr (Or.inr ((⟨by first | omega | assumption, by first | omega | assumption, by (have h44 : (σ 35 29 - (1 : Int32)).toInt = (σ 35 29).toInt - 1 := subI rfl (show (1 : Int32).toInt = 1 from by decide) (by omega) (by omega)); first | exact CKV.t (by omega) ⟨by omega, by omega, by omega, by omega⟩ | exact CKV.tn (by omega) (by rintro ⟨h1, h2, h3, h4⟩; omega) | exact CKV.o (by omega) (by omega) | exact CKV.on (by omega) (by omega) | exact CKV.s (by omega) (by omega) | exact CKV.sn' (by omega) (by omega) | exact CKV.c (by omega) ((show n = (σ 35 29).toInt.toNat by omega) ▸ hi1_20) | exact CKV.g (by omega) | exact CKV.p (by omega) | exact CKV.r (by omega) | exact CKV.k (by omega) | exact CKV.d (by omega) | exact CKV.x (by omega)⟩))) | exact False.elim (by omega))⟩ dX10_clock_188
          · skip
            refine lv_tableIn (tgt := 189) hC.x hC.b dX10_clock_56 (by omega) (by omega) (by rw [sw_15]; rfl) (by decide) ?_
            refine lv_aload_n hC.x hC.b dX10_clock_189 rfl (lv_at hl 0 rfl) ?_
            refine rget hC hK hR (ct_model G _ _) rfl uin_X10 10 (by decide) TF_X10_41 rfl dX10_clock_190 ?_
            refine lv_iload_n hC.x hC.b dX10_clock_193 rfl (lv_at hl 1 rfl) ?_
            refine ald hC hK hR (ct_m_drifts G _ _) rfl (by omega) (by omega) hp_q dX10_clock_194 ?_
            exact reti hC hK hR hS ⟨rfl, (by first | exact Or.inl (⟨by first | rfl | omega, by first | omega | assumption⟩) | exact Or.inr (Or.inl (⟨by first | rfl | omega, by first | omega | assumption, by first | omega | assumption, by first | omega | assumption⟩)) | exact Or.inr (Or.inr ((⟨by first | omega | assumption, by first | omega | assumption, by (have h44 : (σ 35 29 - (1 : Int32)).toInt = (σ 35 29).toInt - 1 := subI rfl (show (1 : Int32).toInt = 1 from by decide) (by omega) (by omega)); first | exact CKV.t (by omega) ⟨by omega, by omega, by omega, by omega⟩ | exact CKV.tn (by omega) (by rintro ⟨h1, h2, h3, h4⟩; omega) | exact CKV.o (by omega) (by omega) | exact CKV.on (by omega) (by omega) | exact CKV.s (by omega) (by omega) | exact CKV.sn' (by omega) (by omega) | exact CKV.c (by omega) ((show n = (σ 35 29).toInt.toNat by omega) ▸ hi1_20) | exact CKV.g (by omega) | exact CKV.p (by omega) | exact CKV.r (by omega) | exact CKV.k (by omega) | exact CKV.d (by omega) | exact CKV.x (by omega)⟩))) | exact False.elim (by omega))⟩ dX10_clock_195
          · skip
            refine lv_tableOut (tgt := 196) hC.x hC.b dX10_clock_56 (by omega) (by decide) ?_
            refine lv_iconst (v := (-1)) hC.x hC.b dX10_clock_196 (by decide) ?_
            exact reti hC hK hR hS ⟨rfl, (by first | exact Or.inl (⟨by first | rfl | omega, by first | omega | assumption⟩) | exact Or.inr (Or.inr ((⟨by first | omega | assumption, by first | omega | assumption, by (have h44 : (σ 35 29 - (1 : Int32)).toInt = (σ 35 29).toInt - 1 := subI rfl (show (1 : Int32).toInt = 1 from by decide) (by omega) (by omega)); first | exact CKV.t (by omega) ⟨by omega, by omega, by omega, by omega⟩ | exact CKV.tn (by omega) (by rintro ⟨h1, h2, h3, h4⟩; omega) | exact CKV.o (by omega) (by omega) | exact CKV.on (by omega) (by omega) | exact CKV.s (by omega) (by omega) | exact CKV.sn' (by omega) (by omega) | exact CKV.c (by omega) ((show n = (σ 35 29).toInt.toNat by omega) ▸ hi1_20) | exact CKV.g (by omega) | exact CKV.p (by omega) | exact CKV.r (by omega) | exact CKV.k (by omega) | exact CKV.d (by omega) | exact CKV.x (by omega)⟩))) | exact False.elim (by omega))⟩ dX10_clock_197
        · skip
          refine lv_iload hC.x hC.b dX10_clock_29 (lv_at hl 4 rfl) ?_
          refine lv_aload_n hC.x hC.b dX10_clock_31 rfl (lv_at hl 0 rfl) ?_
          refine lv_iload hC.x hC.b dX10_clock_32 (lv_at hl 5 rfl) ?_
          refine lv_iload_n hC.x hC.b dX10_clock_34 rfl (lv_at hl 1 rfl) ?_
          have av_27 : (nI n).toInt = (n : Int) := (nI_T n (by omega))
          refine goip (runV (As := [.int (nI n), .int pl]) (rest := [.int x4]) hC hK hR hl.1 (c5_X10_isX l hG σ τ (nI n) n (by first | rfl | (rw [show (nI n).toInt = (n : Int) from (nI_T n (by omega))]; done) | (rw [show (nI n).toInt = (n : Int) from (nI_T n (by omega))]; exact (Int.toNat_natCast _))) pl q (by first | rfl | (rw [show pl.toInt = pl.toInt from rfl]; done) | (rw [show pl.toInt = pl.toInt from rfl]; exact hp_q)) (by first | assumption | omega) (by omega)) (call_b hC.ts TC_X10_isX TN_X10 TM_X10_172 hd_X10_isX ⟨Nat.le_of_ble_eq_true rfl, Nat.le_of_ble_eq_true rfl⟩) TI_X10_isX TS_X10_isX (ct_model G _ _) rfl rfl rfl (Nat.le_of_ble_eq_true rfl) dX10_clock_35 ⟨Nat.le_of_ble_eq_true rfl, Nat.le_of_ble_eq_true rfl⟩) hS (fun v_28 H locs w_29 hR hS => ?_)
          rcases w_29 with ⟨rfl, f_30, f_31, f_32⟩ | ⟨rfl, f_33⟩
          · skip
            refine bz_eq (tgt := 45) (a := 1) (b := 0) hC.x hC.b rfl rfl dX10_clock_38 (by decide) (fun c_34 => absurd c_34 (by decide)) (fun _ => ?_)
            refine lv_iconst (v := 1) hC.x hC.b dX10_clock_41 (by decide) ?_
            refine lv_goto (tgt := 46) hC.x hC.b dX10_clock_42 (by decide) ?_
            refine lv_iadd hC.x hC.b dX10_clock_46 ?_
            refine lv_istore (lv' := [(4, .int (x4 + (1 : Int32))), (0, .ref (G.2.1 35)), (1, .int pl), (2, .int wa), (3, .int (0 : Int32)), (5, .int (nI n))]) hC.x hC.b dX10_clock_47 hl (by decide) rfl (fun ls hl => ?_)
            refine lv_iinc (v := nI (n + 1)) (lv' := [(5, .int (nI (n + 1))), (4, .int (x4 + (1 : Int32))), (0, .ref (G.2.1 35)), (1, .int pl), (2, .int wa), (3, .int (0 : Int32))]) hC.x hC.b dX10_clock_49 hl (k := 5) rfl (nI_succ _).symm (by decide) rfl (fun ls hl => ?_)
            refine lv_goto (tgt := 20) hC.x hC.b dX10_clock_52 (by decide) ?_
            exact ih_20 (x4 + (1 : Int32)) (n + 1) (by omega) (by first | omega | assumption) (by first | exact cnx_y hi1_20 (by rw [← hnI]; exact pX_y hxb (by assumption)) | exact cnx_n hi1_20 (by rw [← hnI]; exact pX_n (by assumption))) _ _ _ hR hS (lv_sub hl [2, 3, 4, 5, 1, 0] rfl)
          · skip
            refine bz_eq (tgt := 45) (a := 0) (b := 0) hC.x hC.b rfl rfl dX10_clock_38 (by decide) (fun _ => ?_) (fun c_35 => absurd c_35 (by decide))
            refine lv_iconst (v := 0) hC.x hC.b dX10_clock_45 (by decide) ?_
            refine lv_iadd hC.x hC.b dX10_clock_46 ?_
            refine lv_istore (lv' := [(4, .int (x4 + (0 : Int32))), (0, .ref (G.2.1 35)), (1, .int pl), (2, .int wa), (3, .int (0 : Int32)), (5, .int (nI n))]) hC.x hC.b dX10_clock_47 hl (by decide) rfl (fun ls hl => ?_)
            refine lv_iinc (v := nI (n + 1)) (lv' := [(5, .int (nI (n + 1))), (4, .int (x4 + (0 : Int32))), (0, .ref (G.2.1 35)), (1, .int pl), (2, .int wa), (3, .int (0 : Int32))]) hC.x hC.b dX10_clock_49 hl (k := 5) rfl (nI_succ _).symm (by decide) rfl (fun ls hl => ?_)
            refine lv_goto (tgt := 20) hC.x hC.b dX10_clock_52 (by decide) ?_
            exact ih_20 (x4 + (0 : Int32)) (n + 1) (by omega) (by first | omega | assumption) (by first | exact cnx_y hi1_20 (by rw [← hnI]; exact pX_y hxb (by assumption)) | exact cnx_n hi1_20 (by rw [← hnI]; exact pX_n (by assumption))) _ _ _ hR hS (lv_sub hl [2, 3, 4, 5, 1, 0] rfl)
    exact L_20 _ (0 : Int32) 0 (Nat.lt_succ_self _) (by first | omega | assumption) (by rfl) _ _ _ hR hS (lv_sub hl [3, 4, 5, 2, 1, 0] rfl)
  · skip
    refine lv_istore_n (lv' := [(3, .int (-2 : Int32)), (0, .ref (G.2.1 35)), (1, .int pl), (2, .int wa)]) hC.x hC.b dX10_clock_7 rfl hl (by decide) rfl (fun ls hl => ?_)
    refine lv_iload_n hC.x hC.b dX10_clock_8 rfl (lv_at hl 0 rfl) ?_
    refine bz_eq (tgt := 14) (a := (-2)) (b := 0) hC.x hC.b rfl rfl dX10_clock_9 (by decide) (fun c_36 => absurd c_36 (by decide)) (fun _ => ?_)
    refine lv_iload_n hC.x hC.b dX10_clock_12 rfl (lv_at hl 0 rfl) ?_
    exact reti hC hK hR hS ⟨rfl, (by first | exact Or.inr (Or.inl (⟨by first | rfl | omega, by first | omega | assumption, by first | omega | assumption, by first | omega | assumption⟩)) | exact Or.inr (Or.inr ((⟨by first | omega | assumption, by first | omega | assumption, by (have h44 : (σ 35 29 - (1 : Int32)).toInt = (σ 35 29).toInt - 1 := subI rfl (show (1 : Int32).toInt = 1 from by decide) (by omega) (by omega)); first | exact CKV.t (by omega) ⟨by omega, by omega, by omega, by omega⟩ | exact CKV.tn (by omega) (by rintro ⟨h1, h2, h3, h4⟩; omega) | exact CKV.o (by omega) (by omega) | exact CKV.on (by omega) (by omega) | exact CKV.s (by omega) (by omega) | exact CKV.sn' (by omega) (by omega) | exact CKV.c (by omega) ((show n = (σ 35 29).toInt.toNat by omega) ▸ hi1_20) | exact CKV.g (by omega) | exact CKV.p (by omega) | exact CKV.r (by omega) | exact CKV.k (by omega) | exact CKV.d (by omega) | exact CKV.x (by omega)⟩))) | exact False.elim (by omega))⟩ dX10_clock_13

abbrev po8_X9_foretell (σ : SI) (τ : SL) (pl : Int32) (q : Nat) : Int32 → SI × SL → Prop := fun v u => ((v = (-1)) ∧ (Fr (fun k => 18 ≤ k ∧ k ≤ 20) σ u.1) ∧ ((¬ (0 ≤ pl.toInt ∧ pl.toInt < 24)) ∨ (σ 2 q).toInt = -1)) ∨ ((v = (-2)) ∧ (Fr (fun k => 18 ≤ k ∧ k ≤ 20) σ u.1) ∧ (0 ≤ pl.toInt ∧ pl.toInt < 24) ∧ ((σ 2 q).toInt ≠ -1) ∧ (¬ (0 ≤ (σ 2 q).toInt ∧ (σ 2 q).toInt ≤ 3))) ∨ ((v = (FT (xC σ 24 q) (σ (80 + q) 2).toInt (σ 0 8).toInt (σ (80 + q) 1).toInt)) ∧ (Fr (fun k => 18 ≤ k ∧ k ≤ 20) σ u.1) ∧ (0 ≤ pl.toInt ∧ pl.toInt < 24) ∧ (0 ≤ (σ 2 q).toInt ∧ (σ 2 q).toInt ≤ 3))
set_option maxRecDepth 100000 in
set_option maxHeartbeats 4000000 in
theorem c8_X9_foretell (l : Launch) {G : Gx} {A : Nat → Prop} (hG : GOk G A) (σ : SI) (τ : SL) (pl : Int32) (q : Nat) (hp_q : pl.toInt.toNat = q) (hnow : 0 ≤ (σ 0 8).toInt ∧ (σ 0 8).toInt ≤ 200) (hk6 : HK6 σ (σ 0 8)) : MI l G A 4 yX9_foretell cX9_foretell 3 (some .int) [.ref (G.2.1 0), .int pl] (σ, τ) (po8_X9_foretell σ τ pl q) := by
  refine met_of (own := RX9) (by decide +kernel) rfl [(0, .ref (G.2.1 0)), (1, .int pl)] rfl (Nat.le_of_ble_eq_true rfl) ?_
  intro p e s m args below meth c ls hC hK hR hl
  have hS : va_S A s.heap s.heap [] := va_S.rf
  refine lv_aload_n hC.x hC.b dX9_foretell_0 rfl (lv_at hl 0 rfl) ?_
  refine rget hC hK hR (ct_bench G _ _) rfl uin_X9 0 (by decide) TF_X9_10 rfl dX9_foretell_1 ?_
  refine lv_iload_n hC.x hC.b dX9_foretell_4 rfl (lv_at hl 1 rfl) ?_
  refine goqp (runV (As := [.int pl]) (rest := []) hC hK hR hl.1 (c_X5_clockAt l hG σ τ pl q (by first | rfl | (rw [show pl.toInt = pl.toInt from rfl]; done) | (rw [show pl.toInt = pl.toInt from rfl]; exact hp_q)) ) (call_b hC.ts TC_X5_clockAt TN_X5 TM_X9_169 hd_X5_clockAt ⟨Nat.le_of_ble_eq_true rfl, Nat.le_of_ble_eq_true rfl⟩) TI_X5_clockAt TS_X5_clockAt (ct_shelf G _ _) rfl rfl rfl (Nat.le_of_ble_eq_true rfl) dX9_foretell_5 ⟨Nat.le_of_ble_eq_true rfl, Nat.le_of_ble_eq_true rfl⟩) hS (fun v_1 H locs w_2 hR hS => ?_)
  rcases w_2 with ⟨rfl, f_3⟩ | ⟨rfl, f_4, f_5, f_6, f_7⟩
  · skip
    refine lv_astore_nN (lv' := [(2, .null), (0, .ref (G.2.1 0)), (1, .int pl)]) hC.x hC.b dX9_foretell_8 rfl hl (by decide) rfl (fun ls hl => ?_)
    refine lv_aload_nN hC.x hC.b dX9_foretell_9 rfl (lv_at hl 0 rfl) ?_
    refine lv_ifnonnullN hC.x hC.b dX9_foretell_10 ?_
    refine lv_aload_n hC.x hC.b dX9_foretell_13 rfl (lv_at hl 1 rfl) ?_
    refine lv_iload_n hC.x hC.b dX9_foretell_14 rfl (lv_at hl 2 rfl) ?_
    refine goip (runV (As := [.int pl]) (rest := []) hC hK hR hl.1 (c_X9_refusalAt l hG σ τ pl q (by first | rfl | (rw [show pl.toInt = pl.toInt from rfl]; done) | (rw [show pl.toInt = pl.toInt from rfl]; exact hp_q)) ) (call_b hC.ts TC_X9_refusalAt TN_X9 TM_X9_116 hd_X9_refusalAt ⟨Nat.le_of_ble_eq_true rfl, Nat.le_of_ble_eq_true rfl⟩) TI_X9_refusalAt TS_X9_refusalAt (ct_bench G _ _) rfl rfl rfl (Nat.le_of_ble_eq_true rfl) dX9_foretell_15 ⟨Nat.le_of_ble_eq_true rfl, Nat.le_of_ble_eq_true rfl⟩) hS (fun v_8 H locs w_9 hR hS => ?_)
    rcases w_9 with ⟨rfl, f_10⟩ | ⟨rfl, f_11, f_12, f_13⟩
    · skip
      refine lv_goto (tgt := 33) hC.x hC.b dX9_foretell_18 (by decide) ?_
      exact reti hC hK hR hS (by first | exact Or.inl (⟨by rfl, by exact Fr.rf, by first | omega | assumption⟩) | exact Or.inr (Or.inr ((⟨by rfl, by exact Fr.rf, by first | omega | assumption, by first | omega | assumption⟩))) | exact False.elim (by omega)) dX9_foretell_33
    · skip
      refine lv_goto (tgt := 33) hC.x hC.b dX9_foretell_18 (by decide) ?_
      exact reti hC hK hR hS (by first | exact Or.inr (Or.inl (⟨by rfl, by exact Fr.rf, by first | omega | assumption, by first | omega | assumption, by first | omega | assumption⟩)) | exact Or.inr (Or.inr ((⟨by rfl, by exact Fr.rf, by first | omega | assumption, by first | omega | assumption⟩))) | exact False.elim (by omega)) dX9_foretell_33
  · skip
    have hq_14 : q < 24 := by omega
    refine lv_astore_n (lv' := [(2, .ref (G.2.1 (80 + q))), (0, .ref (G.2.1 0)), (1, .int pl)]) hC.x hC.b dX9_foretell_8 rfl hl (by decide) rfl (fun ls hl => ?_)
    refine lv_aload_n hC.x hC.b dX9_foretell_9 rfl (lv_at hl 0 rfl) ?_
    refine lv_ifnonnull (tgt := 21) hC.x hC.b dX9_foretell_10 (by decide) ?_
    refine lv_aload_n hC.x hC.b dX9_foretell_21 rfl (lv_at hl 1 rfl) ?_
    refine rget hC hK hR (ct_bench G _ _) rfl uin_X9 4 (by decide) TF_X9_44 rfl dX9_foretell_22 ?_
    refine lv_aload_n hC.x hC.b dX9_foretell_25 rfl (lv_at hl 0 rfl) ?_
    refine lv_aload_n hC.x hC.b dX9_foretell_26 rfl (lv_at hl 1 rfl) ?_
    refine rget hC hK hR (ct_bench G _ _) rfl uin_X9 8 (by decide) TF_X9_65 rfl dX9_foretell_27 ?_
    refine goi (runV (As := [.ref (G.2.1 (80 + q)), .int (σ 0 8)]) (rest := []) hC hK hR hl.1 (c5_X2_foretoldOf l hG σ τ q hq_14 (σ 0 8) (by first | omega | assumption) (by exact (hk6 q (by omega) ⟨by omega, by omega⟩))) (call_b hC.ts TC_X2_foretoldOf TN_X2 TM_X9_228 hd_X2_foretoldOf ⟨Nat.le_of_ble_eq_true rfl, Nat.le_of_ble_eq_true rfl⟩) TI_X2_foretoldOf TS_X2_foretoldOf (ct_fore G _ _) rfl rfl rfl (Nat.le_of_ble_eq_true rfl) dX9_foretell_30 ⟨Nat.le_of_ble_eq_true rfl, Nat.le_of_ble_eq_true rfl⟩) hS (fun v_15 s_17 t_18 H locs w_16 hR hS => ?_)
    try dsimp only [po5_X2_foretoldOf] at w_16
    obtain ⟨rfl, f_19⟩ := w_16
    exact reti hC hK hR hS (by first | exact Or.inl (⟨by rfl, by exact (Fr.tr Fr.rf f_19), by first | omega | assumption⟩) | exact Or.inr (Or.inl (⟨by rfl, by exact (Fr.tr Fr.rf f_19), by first | omega | assumption, by first | omega | assumption, by first | omega | assumption⟩)) | exact Or.inr (Or.inr ((⟨by rfl, by exact (Fr.tr Fr.rf f_19), by first | omega | assumption, by first | omega | assumption⟩))) | exact False.elim (by omega)) dX9_foretell_33

abbrev po8_X9_weight (σ : SI) (τ : SL) (pl : Int32) (q : Nat) : Int32 → SI × SL → Prop := fun v u => ((v = (-1)) ∧ (Fr (fun k => 18 ≤ k ∧ k ≤ 20) σ u.1) ∧ ((¬ (0 ≤ pl.toInt ∧ pl.toInt < 24)) ∨ (σ 2 q).toInt = -1)) ∨ ((v = (-2)) ∧ (Fr (fun k => 18 ≤ k ∧ k ≤ 20) σ u.1) ∧ (0 ≤ pl.toInt ∧ pl.toInt < 24) ∧ ((σ 2 q).toInt ≠ -1) ∧ (¬ (0 ≤ (σ 2 q).toInt ∧ (σ 2 q).toInt ≤ 3))) ∨ ((v = (FW6 (σ (80 + q) 7).toInt (FT (xC σ 24 q) (σ (80 + q) 2).toInt (σ 0 8).toInt (σ (80 + q) 1).toInt) (xC σ 26 q) (σ (80 + q) 3).toInt (σ 0 8).toInt)) ∧ (Fr (fun k => 18 ≤ k ∧ k ≤ 20) σ u.1) ∧ (0 ≤ pl.toInt ∧ pl.toInt < 24) ∧ (0 ≤ (σ 2 q).toInt ∧ (σ 2 q).toInt ≤ 3))
set_option maxRecDepth 100000 in
set_option maxHeartbeats 4000000 in
theorem c8_X9_weight (l : Launch) {G : Gx} {A : Nat → Prop} (hG : GOk G A) (σ : SI) (τ : SL) (pl : Int32) (q : Nat) (hp_q : pl.toInt.toNat = q) (hnow : 0 ≤ (σ 0 8).toInt ∧ (σ 0 8).toInt ≤ 200) (hk6 : HK6 σ (σ 0 8)) : MI l G A 4 yX9_weight cX9_weight 3 (some .int) [.ref (G.2.1 0), .int pl] (σ, τ) (po8_X9_weight σ τ pl q) := by
  refine met_of (own := RX9) (by decide +kernel) rfl [(0, .ref (G.2.1 0)), (1, .int pl)] rfl (Nat.le_of_ble_eq_true rfl) ?_
  intro p e s m args below meth c ls hC hK hR hl
  have hS : va_S A s.heap s.heap [] := va_S.rf
  refine lv_aload_n hC.x hC.b dX9_weight_0 rfl (lv_at hl 0 rfl) ?_
  refine rget hC hK hR (ct_bench G _ _) rfl uin_X9 0 (by decide) TF_X9_10 rfl dX9_weight_1 ?_
  refine lv_iload_n hC.x hC.b dX9_weight_4 rfl (lv_at hl 1 rfl) ?_
  refine goqp (runV (As := [.int pl]) (rest := []) hC hK hR hl.1 (c_X5_clockAt l hG σ τ pl q (by first | rfl | (rw [show pl.toInt = pl.toInt from rfl]; done) | (rw [show pl.toInt = pl.toInt from rfl]; exact hp_q)) ) (call_b hC.ts TC_X5_clockAt TN_X5 TM_X9_169 hd_X5_clockAt ⟨Nat.le_of_ble_eq_true rfl, Nat.le_of_ble_eq_true rfl⟩) TI_X5_clockAt TS_X5_clockAt (ct_shelf G _ _) rfl rfl rfl (Nat.le_of_ble_eq_true rfl) dX9_weight_5 ⟨Nat.le_of_ble_eq_true rfl, Nat.le_of_ble_eq_true rfl⟩) hS (fun v_1 H locs w_2 hR hS => ?_)
  rcases w_2 with ⟨rfl, f_3⟩ | ⟨rfl, f_4, f_5, f_6, f_7⟩
  · skip
    refine lv_astore_nN (lv' := [(2, .null), (0, .ref (G.2.1 0)), (1, .int pl)]) hC.x hC.b dX9_weight_8 rfl hl (by decide) rfl (fun ls hl => ?_)
    refine lv_aload_nN hC.x hC.b dX9_weight_9 rfl (lv_at hl 0 rfl) ?_
    refine lv_ifnonnullN hC.x hC.b dX9_weight_10 ?_
    refine lv_aload_n hC.x hC.b dX9_weight_13 rfl (lv_at hl 1 rfl) ?_
    refine lv_iload_n hC.x hC.b dX9_weight_14 rfl (lv_at hl 2 rfl) ?_
    refine goip (runV (As := [.int pl]) (rest := []) hC hK hR hl.1 (c_X9_refusalAt l hG σ τ pl q (by first | rfl | (rw [show pl.toInt = pl.toInt from rfl]; done) | (rw [show pl.toInt = pl.toInt from rfl]; exact hp_q)) ) (call_b hC.ts TC_X9_refusalAt TN_X9 TM_X9_116 hd_X9_refusalAt ⟨Nat.le_of_ble_eq_true rfl, Nat.le_of_ble_eq_true rfl⟩) TI_X9_refusalAt TS_X9_refusalAt (ct_bench G _ _) rfl rfl rfl (Nat.le_of_ble_eq_true rfl) dX9_weight_15 ⟨Nat.le_of_ble_eq_true rfl, Nat.le_of_ble_eq_true rfl⟩) hS (fun v_8 H locs w_9 hR hS => ?_)
    rcases w_9 with ⟨rfl, f_10⟩ | ⟨rfl, f_11, f_12, f_13⟩
    · skip
      exact reti hC hK hR hS (by first | exact Or.inl (⟨by rfl, by exact Fr.rf, by first | omega | assumption⟩) | exact Or.inr (Or.inr ((⟨by rfl, by exact Fr.rf, by first | omega | assumption, by first | omega | assumption⟩))) | exact False.elim (by omega)) dX9_weight_18
    · skip
      exact reti hC hK hR hS (by first | exact Or.inr (Or.inl (⟨by rfl, by exact Fr.rf, by first | omega | assumption, by first | omega | assumption, by first | omega | assumption⟩)) | exact Or.inr (Or.inr ((⟨by rfl, by exact Fr.rf, by first | omega | assumption, by first | omega | assumption⟩))) | exact False.elim (by omega)) dX9_weight_18
  · skip
    have hq_14 : q < 24 := by omega
    refine lv_astore_n (lv' := [(2, .ref (G.2.1 (80 + q))), (0, .ref (G.2.1 0)), (1, .int pl)]) hC.x hC.b dX9_weight_8 rfl hl (by decide) rfl (fun ls hl => ?_)
    refine lv_aload_n hC.x hC.b dX9_weight_9 rfl (lv_at hl 0 rfl) ?_
    refine lv_ifnonnull (tgt := 19) hC.x hC.b dX9_weight_10 (by decide) ?_
    refine lv_aload_n hC.x hC.b dX9_weight_19 rfl (lv_at hl 1 rfl) ?_
    refine rget hC hK hR (ct_bench G _ _) rfl uin_X9 4 (by decide) TF_X9_44 rfl dX9_weight_20 ?_
    refine lv_aload_n hC.x hC.b dX9_weight_23 rfl (lv_at hl 0 rfl) ?_
    refine lv_aload_n hC.x hC.b dX9_weight_24 rfl (lv_at hl 1 rfl) ?_
    refine rget hC hK hR (ct_bench G _ _) rfl uin_X9 8 (by decide) TF_X9_65 rfl dX9_weight_25 ?_
    refine lv_aload_n hC.x hC.b dX9_weight_28 rfl (lv_at hl 1 rfl) ?_
    refine rget hC hK hR (ct_bench G _ _) rfl uin_X9 4 (by decide) TF_X9_44 rfl dX9_weight_29 ?_
    refine lv_aload_n hC.x hC.b dX9_weight_32 rfl (lv_at hl 0 rfl) ?_
    refine lv_aload_n hC.x hC.b dX9_weight_33 rfl (lv_at hl 1 rfl) ?_
    refine rget hC hK hR (ct_bench G _ _) rfl uin_X9 8 (by decide) TF_X9_65 rfl dX9_weight_34 ?_
    refine goi (runV (As := [.ref (G.2.1 (80 + q)), .int (σ 0 8)]) (rest := [.int (σ 0 8), .ref (G.2.1 (80 + q)), .ref (G.2.1 18)]) hC hK hR hl.1 (c5_X2_foretoldOf l hG σ τ q hq_14 (σ 0 8) (by first | omega | assumption) (by exact (hk6 q (by omega) ⟨by omega, by omega⟩))) (call_b hC.ts TC_X2_foretoldOf TN_X2 TM_X9_228 hd_X2_foretoldOf ⟨Nat.le_of_ble_eq_true rfl, Nat.le_of_ble_eq_true rfl⟩) TI_X2_foretoldOf TS_X2_foretoldOf (ct_fore G _ _) rfl rfl rfl (Nat.le_of_ble_eq_true rfl) dX9_weight_37 ⟨Nat.le_of_ble_eq_true rfl, Nat.le_of_ble_eq_true rfl⟩) hS (fun v_15 s_17 t_18 H locs w_16 hR hS => ?_)
    try dsimp only [po5_X2_foretoldOf] at w_16
    obtain ⟨rfl, f_19⟩ := w_16
    refine goi (runV (As := [.ref (G.2.1 (80 + q)), .int (σ 0 8), .int (FT (xC σ 24 q) (σ (80 + q) 2).toInt (σ 0 8).toInt (σ (80 + q) 1).toInt)]) (rest := []) hC hK hR hl.1 (c5_X2_fullWeightOf l hG s_17 t_18 q hq_14 (σ 0 8) (FT (xC σ 24 q) (σ (80 + q) 2).toInt (σ 0 8).toInt (σ (80 + q) 1).toInt) (by first | omega | assumption) (by exact KM6.f (KQ6.m (hk6 q (by omega) ⟨by omega, by omega⟩)) f_19)) (call_b hC.ts TC_X2_fullWeightOf TN_X2 TM_X9_253 hd_X2_fullWeightOf ⟨Nat.le_of_ble_eq_true rfl, Nat.le_of_ble_eq_true rfl⟩) TI_X2_fullWeightOf TS_X2_fullWeightOf (ct_fore G _ _) rfl rfl rfl (Nat.le_of_ble_eq_true rfl) dX9_weight_40 ⟨Nat.le_of_ble_eq_true rfl, Nat.le_of_ble_eq_true rfl⟩) hS (fun v_20 s_22 t_23 H locs w_21 hR hS => ?_)
    try dsimp only [po5_X2_fullWeightOf] at w_21
    obtain ⟨rfl, f_24⟩ := w_21
    exact reti hC hK hR hS (by first | exact Or.inl (⟨by (try dsimp only); rw [xC_f f_19 (by omega), show s_17 (80 + q) = σ (80 + q) from f_19 (80 + q) (by omega)], by exact (Fr.tr (Fr.tr Fr.rf f_19) f_24), by first | omega | assumption⟩) | exact Or.inr (Or.inl (⟨by (try dsimp only); rw [xC_f f_19 (by omega), show s_17 (80 + q) = σ (80 + q) from f_19 (80 + q) (by omega)], by exact (Fr.tr (Fr.tr Fr.rf f_19) f_24), by first | omega | assumption, by first | omega | assumption, by first | omega | assumption⟩)) | exact Or.inr (Or.inr ((⟨by (try dsimp only); rw [xC_f f_19 (by omega), show s_17 (80 + q) = σ (80 + q) from f_19 (80 + q) (by omega)], by exact (Fr.tr (Fr.tr Fr.rf f_19) f_24), by first | omega | assumption, by first | omega | assumption⟩))) | exact False.elim (by omega)) dX9_weight_43

abbrev po8_X9_slope (σ : SI) (τ : SL) (pl : Int32) (q : Nat) (wa : Int32) : Int32 → SI × SL → Prop := fun v u => ((v = (-1)) ∧ (Fr (fun k => 18 ≤ k ∧ k ≤ 20) σ u.1) ∧ ((¬ (0 ≤ pl.toInt ∧ pl.toInt < 24)) ∨ (σ 2 q).toInt = -1)) ∨ ((v = (-2)) ∧ (Fr (fun k => 18 ≤ k ∧ k ≤ 20) σ u.1) ∧ (0 ≤ pl.toInt ∧ pl.toInt < 24) ∧ ((σ 2 q).toInt ≠ -1) ∧ (¬ (0 ≤ (σ 2 q).toInt ∧ (σ 2 q).toInt ≤ 3))) ∨ ((v = (-1)) ∧ (Fr (fun k => 18 ≤ k ∧ k ≤ 20) σ u.1) ∧ (0 ≤ pl.toInt ∧ pl.toInt < 24) ∧ (0 ≤ (σ 2 q).toInt ∧ (σ 2 q).toInt ≤ 3) ∧ (wa.toInt < 0 ∨ 1 < wa.toInt)) ∨ ((v = (SLP (xC σ 24 q) (σ (80 + q) 2).toInt (σ 0 8).toInt (σ (80 + q) 1).toInt wa.toInt)) ∧ (Fr (fun k => 18 ≤ k ∧ k ≤ 20) σ u.1) ∧ (0 ≤ pl.toInt ∧ pl.toInt < 24) ∧ (0 ≤ (σ 2 q).toInt ∧ (σ 2 q).toInt ≤ 3) ∧ (0 ≤ wa.toInt ∧ wa.toInt ≤ 1))
set_option maxRecDepth 100000 in
set_option maxHeartbeats 4000000 in
theorem c8_X9_slope (l : Launch) {G : Gx} {A : Nat → Prop} (hG : GOk G A) (σ : SI) (τ : SL) (pl : Int32) (q : Nat) (hp_q : pl.toInt.toNat = q) (wa : Int32) (hnow : 0 ≤ (σ 0 8).toInt ∧ (σ 0 8).toInt ≤ 200) (hk6 : HK6 σ (σ 0 8)) : MI l G A 3 yX9_slope cX9_slope 7 (some .int) [.ref (G.2.1 0), .int pl, .int wa] (σ, τ) (po8_X9_slope σ τ pl q wa) := by
  refine met_of (own := RX9) (by decide +kernel) rfl [(0, .ref (G.2.1 0)), (1, .int pl), (2, .int wa)] rfl (Nat.le_of_ble_eq_true rfl) ?_
  intro p e s m args below meth c ls hC hK hR hl
  have hS : va_S A s.heap s.heap [] := va_S.rf
  refine lv_aload_n hC.x hC.b dX9_slope_0 rfl (lv_at hl 0 rfl) ?_
  refine rget hC hK hR (ct_bench G _ _) rfl uin_X9 0 (by decide) TF_X9_10 rfl dX9_slope_1 ?_
  refine lv_iload_n hC.x hC.b dX9_slope_4 rfl (lv_at hl 1 rfl) ?_
  refine goqp (runV (As := [.int pl]) (rest := []) hC hK hR hl.1 (c_X5_clockAt l hG σ τ pl q (by first | rfl | (rw [show pl.toInt = pl.toInt from rfl]; done) | (rw [show pl.toInt = pl.toInt from rfl]; exact hp_q)) ) (call_b hC.ts TC_X5_clockAt TN_X5 TM_X9_169 hd_X5_clockAt ⟨Nat.le_of_ble_eq_true rfl, Nat.le_of_ble_eq_true rfl⟩) TI_X5_clockAt TS_X5_clockAt (ct_shelf G _ _) rfl rfl rfl (Nat.le_of_ble_eq_true rfl) dX9_slope_5 ⟨Nat.le_of_ble_eq_true rfl, Nat.le_of_ble_eq_true rfl⟩) hS (fun v_1 H locs w_2 hR hS => ?_)
  rcases w_2 with ⟨rfl, f_3⟩ | ⟨rfl, f_4, f_5, f_6, f_7⟩
  · skip
    refine lv_astore_nN (lv' := [(3, .null), (0, .ref (G.2.1 0)), (1, .int pl), (2, .int wa)]) hC.x hC.b dX9_slope_8 rfl hl (by decide) rfl (fun ls hl => ?_)
    refine lv_aload_nN hC.x hC.b dX9_slope_9 rfl (lv_at hl 0 rfl) ?_
    refine lv_ifnonnullN hC.x hC.b dX9_slope_10 ?_
    refine lv_aload_n hC.x hC.b dX9_slope_13 rfl (lv_at hl 1 rfl) ?_
    refine lv_iload_n hC.x hC.b dX9_slope_14 rfl (lv_at hl 2 rfl) ?_
    refine goip (runV (As := [.int pl]) (rest := []) hC hK hR hl.1 (c_X9_refusalAt l hG σ τ pl q (by first | rfl | (rw [show pl.toInt = pl.toInt from rfl]; done) | (rw [show pl.toInt = pl.toInt from rfl]; exact hp_q)) ) (call_b hC.ts TC_X9_refusalAt TN_X9 TM_X9_116 hd_X9_refusalAt ⟨Nat.le_of_ble_eq_true rfl, Nat.le_of_ble_eq_true rfl⟩) TI_X9_refusalAt TS_X9_refusalAt (ct_bench G _ _) rfl rfl rfl (Nat.le_of_ble_eq_true rfl) dX9_slope_15 ⟨Nat.le_of_ble_eq_true rfl, Nat.le_of_ble_eq_true rfl⟩) hS (fun v_8 H locs w_9 hR hS => ?_)
    rcases w_9 with ⟨rfl, f_10⟩ | ⟨rfl, f_11, f_12, f_13⟩
    · skip
      exact reti hC hK hR hS (by first | exact Or.inl (⟨by first | rfl | exact slc_0 (by assumption) (by omega), by exact Fr.rf, by first | omega | assumption⟩) | exact Or.inr (Or.inr (Or.inl (⟨by first | rfl | exact slc_0 (by assumption) (by omega), by exact Fr.rf, by first | omega | assumption, by first | omega | assumption, by first | omega | assumption⟩))) | exact Or.inr (Or.inr (Or.inr ((⟨by first | rfl | exact slc_0 (by assumption) (by omega), by exact Fr.rf, by first | omega | assumption, by first | omega | assumption, by first | omega | assumption⟩)))) | exact False.elim (by omega)) dX9_slope_18
    · skip
      exact reti hC hK hR hS (by first | exact Or.inr (Or.inl (⟨by first | rfl | exact slc_0 (by assumption) (by omega), by exact Fr.rf, by first | omega | assumption, by first | omega | assumption, by first | omega | assumption⟩)) | exact Or.inr (Or.inr (Or.inr ((⟨by first | rfl | exact slc_0 (by assumption) (by omega), by exact Fr.rf, by first | omega | assumption, by first | omega | assumption, by first | omega | assumption⟩)))) | exact False.elim (by omega)) dX9_slope_18
  · skip
    have hq_14 : q < 24 := by omega
    refine lv_astore_n (lv' := [(3, .ref (G.2.1 (80 + q))), (0, .ref (G.2.1 0)), (1, .int pl), (2, .int wa)]) hC.x hC.b dX9_slope_8 rfl hl (by decide) rfl (fun ls hl => ?_)
    refine lv_aload_n hC.x hC.b dX9_slope_9 rfl (lv_at hl 0 rfl) ?_
    refine lv_ifnonnull (tgt := 19) hC.x hC.b dX9_slope_10 (by decide) ?_
    refine lv_iload_n hC.x hC.b dX9_slope_19 rfl (lv_at hl 3 rfl) ?_
    refine bz_eq (tgt := 30) (a := wa.toInt) (b := 0) hC.x hC.b rfl rfl dX9_slope_20 (by decide) (fun c_15 => ?_) (fun c_15 => ?_)
    · skip
      refine lv_aload_n hC.x hC.b dX9_slope_30 rfl (lv_at hl 1 rfl) ?_
      refine rget hC hK hR (ct_bench G _ _) rfl uin_X9 4 (by decide) TF_X9_44 rfl dX9_slope_31 ?_
      refine lv_aload_n hC.x hC.b dX9_slope_34 rfl (lv_at hl 0 rfl) ?_
      refine lv_aload_n hC.x hC.b dX9_slope_35 rfl (lv_at hl 1 rfl) ?_
      refine rget hC hK hR (ct_bench G _ _) rfl uin_X9 8 (by decide) TF_X9_65 rfl dX9_slope_36 ?_
      refine goq (runV (As := [.ref (G.2.1 (80 + q)), .int (σ 0 8)]) (rest := []) hC hK hR hl.1 (c5_X2_lineOf l hG σ τ q hq_14 (σ 0 8) (by first | omega | assumption) (by exact (hk6 q (by omega) ⟨by omega, by omega⟩))) (call_b hC.ts TC_X2_lineOf TN_X2 TM_X9_231 hd_X2_lineOf ⟨Nat.le_of_ble_eq_true rfl, Nat.le_of_ble_eq_true rfl⟩) TI_X2_lineOf TS_X2_lineOf (ct_fore G _ _) rfl rfl rfl (Nat.le_of_ble_eq_true rfl) dX9_slope_39 ⟨Nat.le_of_ble_eq_true rfl, Nat.le_of_ble_eq_true rfl⟩) hS (fun v_16 s_18 t_19 H locs w_17 hR hS => ?_)
      try dsimp only [po5_X2_lineOf] at w_17
      rcases w_17 with ⟨rfl, f_20, f_21, f_22⟩ | ⟨rfl, f_23, f_24, f_25⟩
      · skip
        refine lv_astore (lv' := [(4, .ref (G.2.1 19)), (3, .ref (G.2.1 (80 + q))), (0, .ref (G.2.1 0)), (1, .int pl), (2, .int wa)]) hC.x hC.b dX9_slope_42 hl (by decide) rfl (fun ls hl => ?_)
        refine lv_aload hC.x hC.b dX9_slope_44 (lv_at hl 0 rfl) ?_
        refine goip (runV (As := []) (rest := []) hC hK hR hl.1 (c_X3_count l hG s_18 t_19 19 (by decide) ) (call_b hC.ts TC_X3_count TN_X3 TM_X9_235 hd_X3_count ⟨Nat.le_of_ble_eq_true rfl, Nat.le_of_ble_eq_true rfl⟩) TI_X3_count TS_X3_count (ct_xs G _ _) rfl rfl rfl (Nat.le_of_ble_eq_true rfl) dX9_slope_46 ⟨Nat.le_of_ble_eq_true rfl, Nat.le_of_ble_eq_true rfl⟩) hS (fun v_26 H locs w_27 hR hS => ?_)
        subst w_27
        refine bz_ne (tgt := 55) (a := (s_18 19 0).toInt) (b := 0) hC.x hC.b rfl rfl dX9_slope_49 (by decide) (fun c_28 => ?_) (fun c_28 => ?_)
        · skip
          refine lv_iload_n hC.x hC.b dX9_slope_55 rfl (lv_at hl 4 rfl) ?_
          refine bz_ne (tgt := 67) (a := wa.toInt) (b := 0) hC.x hC.b rfl rfl dX9_slope_56 (by decide) (fun c_29 => ?_) (fun c_29 => ?_)
          · skip
            refine lv_aload hC.x hC.b dX9_slope_67 (lv_at hl 0 rfl) ?_
            refine golp (runV (As := []) (rest := []) hC hK hR hl.1 (c5_X3_slopeBelow l hG s_18 t_19 19 (by decide) ) (call_b hC.ts TC_X3_slopeBelow TN_X3 TM_X9_245 hd_X3_slopeBelow ⟨Nat.le_of_ble_eq_true rfl, Nat.le_of_ble_eq_true rfl⟩) TI_X3_slopeBelow TS_X3_slopeBelow (ct_xs G _ _) rfl rfl rfl (Nat.le_of_ble_eq_true rfl) dX9_slope_69 ⟨Nat.le_of_ble_eq_true rfl, Nat.le_of_ble_eq_true rfl⟩) hS (fun v_30 H locs w_31 hR hS => ?_)
            have f_32 := w_31
            refine lv_lstore (lv' := [(5, .long v_30), (4, .ref (G.2.1 19)), (3, .ref (G.2.1 (80 + q))), (0, .ref (G.2.1 0)), (1, .int pl), (2, .int wa)]) hC.x hC.b dX9_slope_72 hl (by decide) rfl (fun ls hl => ?_)
            refine lv_lload hC.x hC.b dX9_slope_74 (lv_at hl 0 rfl) ?_
            refine lv_ldc hC.x hC.b hC.ow (hC.ts _ TK_X9_248) dX9_slope_76 ?_
            have av_33 : (1000000000 : Int32).toInt = 1000000000 := by decide
            refine goip (runS (As := [.long v_30, .int (1000000000 : Int32)]) (rest := []) hC hK hR hl.1 (c_X9_cut l hG s_18 t_19 v_30 (1000000000 : Int32) (by first | decide | omega)) (call_b hC.ts TC_X9_cut TN_X9 TM_X9_249 hd_X9_cut ⟨Nat.le_of_ble_eq_true rfl, Nat.le_of_ble_eq_true rfl⟩) TT_X9_cut rfl rfl (Nat.le_of_ble_eq_true rfl) dX9_slope_78 ⟨Nat.le_of_ble_eq_true rfl, Nat.le_of_ble_eq_true rfl⟩) hS (fun v_34 H locs w_35 hR hS => ?_)
            have f_36 := w_35
            exact reti hC hK hR hS (by first | exact Or.inl (⟨by first | exact slc_v (hk6 q (by omega) ⟨by omega, by omega⟩).2.2.2.1 (hk6 q (by omega) ⟨by omega, by omega⟩).1 (by assumption) (by omega) (fun L h1 h2 => by first | (rw [if_pos (by omega)]; exact f_32 L h1 h2) | (rw [if_neg (by omega)]; exact f_32 L h1 h2)) (by assumption) | rfl, by exact (Fr.tr Fr.rf f_20), by first | omega | assumption⟩) | exact Or.inr (Or.inl (⟨by first | exact slc_v (hk6 q (by omega) ⟨by omega, by omega⟩).2.2.2.1 (hk6 q (by omega) ⟨by omega, by omega⟩).1 (by assumption) (by omega) (fun L h1 h2 => by first | (rw [if_pos (by omega)]; exact f_32 L h1 h2) | (rw [if_neg (by omega)]; exact f_32 L h1 h2)) (by assumption) | rfl, by exact (Fr.tr Fr.rf f_20), by first | omega | assumption, by first | omega | assumption, by first | omega | assumption⟩)) | exact Or.inr (Or.inr (Or.inl (⟨by first | exact slc_v (hk6 q (by omega) ⟨by omega, by omega⟩).2.2.2.1 (hk6 q (by omega) ⟨by omega, by omega⟩).1 (by assumption) (by omega) (fun L h1 h2 => by first | (rw [if_pos (by omega)]; exact f_32 L h1 h2) | (rw [if_neg (by omega)]; exact f_32 L h1 h2)) (by assumption) | rfl, by exact (Fr.tr Fr.rf f_20), by first | omega | assumption, by first | omega | assumption, by first | omega | assumption⟩))) | exact Or.inr (Or.inr (Or.inr ((⟨by first | exact slc_v (hk6 q (by omega) ⟨by omega, by omega⟩).2.2.2.1 (hk6 q (by omega) ⟨by omega, by omega⟩).1 (by assumption) (by omega) (fun L h1 h2 => by first | (rw [if_pos (by omega)]; exact f_32 L h1 h2) | (rw [if_neg (by omega)]; exact f_32 L h1 h2)) (by assumption) | rfl, by exact (Fr.tr Fr.rf f_20), by first | omega | assumption, by first | omega | assumption, by first | omega | assumption⟩)))) | exact False.elim (by omega)) dX9_slope_81
          · skip
            refine lv_aload hC.x hC.b dX9_slope_59 (lv_at hl 0 rfl) ?_
            refine golp (runV (As := []) (rest := []) hC hK hR hl.1 (c5_X3_slopeAbove l hG s_18 t_19 19 (by decide) ) (call_b hC.ts TC_X3_slopeAbove TN_X3 TM_X9_241 hd_X3_slopeAbove ⟨Nat.le_of_ble_eq_true rfl, Nat.le_of_ble_eq_true rfl⟩) TI_X3_slopeAbove TS_X3_slopeAbove (ct_xs G _ _) rfl rfl rfl (Nat.le_of_ble_eq_true rfl) dX9_slope_61 ⟨Nat.le_of_ble_eq_true rfl, Nat.le_of_ble_eq_true rfl⟩) hS (fun v_37 H locs w_38 hR hS => ?_)
            have f_39 := w_38
            refine lv_goto (tgt := 72) hC.x hC.b dX9_slope_64 (by decide) ?_
            refine lv_lstore (lv' := [(5, .long v_37), (4, .ref (G.2.1 19)), (3, .ref (G.2.1 (80 + q))), (0, .ref (G.2.1 0)), (1, .int pl), (2, .int wa)]) hC.x hC.b dX9_slope_72 hl (by decide) rfl (fun ls hl => ?_)
            refine lv_lload hC.x hC.b dX9_slope_74 (lv_at hl 0 rfl) ?_
            refine lv_ldc hC.x hC.b hC.ow (hC.ts _ TK_X9_248) dX9_slope_76 ?_
            have av_40 : (1000000000 : Int32).toInt = 1000000000 := by decide
            refine goip (runS (As := [.long v_37, .int (1000000000 : Int32)]) (rest := []) hC hK hR hl.1 (c_X9_cut l hG s_18 t_19 v_37 (1000000000 : Int32) (by first | decide | omega)) (call_b hC.ts TC_X9_cut TN_X9 TM_X9_249 hd_X9_cut ⟨Nat.le_of_ble_eq_true rfl, Nat.le_of_ble_eq_true rfl⟩) TT_X9_cut rfl rfl (Nat.le_of_ble_eq_true rfl) dX9_slope_78 ⟨Nat.le_of_ble_eq_true rfl, Nat.le_of_ble_eq_true rfl⟩) hS (fun v_41 H locs w_42 hR hS => ?_)
            have f_43 := w_42
            exact reti hC hK hR hS (by first | exact Or.inl (⟨by first | exact slc_v (hk6 q (by omega) ⟨by omega, by omega⟩).2.2.2.1 (hk6 q (by omega) ⟨by omega, by omega⟩).1 (by assumption) (by omega) (fun L h1 h2 => by first | (rw [if_pos (by omega)]; exact f_39 L h1 h2) | (rw [if_neg (by omega)]; exact f_39 L h1 h2)) (by assumption) | rfl, by exact (Fr.tr Fr.rf f_20), by first | omega | assumption⟩) | exact Or.inr (Or.inl (⟨by first | exact slc_v (hk6 q (by omega) ⟨by omega, by omega⟩).2.2.2.1 (hk6 q (by omega) ⟨by omega, by omega⟩).1 (by assumption) (by omega) (fun L h1 h2 => by first | (rw [if_pos (by omega)]; exact f_39 L h1 h2) | (rw [if_neg (by omega)]; exact f_39 L h1 h2)) (by assumption) | rfl, by exact (Fr.tr Fr.rf f_20), by first | omega | assumption, by first | omega | assumption, by first | omega | assumption⟩)) | exact Or.inr (Or.inr (Or.inl (⟨by first | exact slc_v (hk6 q (by omega) ⟨by omega, by omega⟩).2.2.2.1 (hk6 q (by omega) ⟨by omega, by omega⟩).1 (by assumption) (by omega) (fun L h1 h2 => by first | (rw [if_pos (by omega)]; exact f_39 L h1 h2) | (rw [if_neg (by omega)]; exact f_39 L h1 h2)) (by assumption) | rfl, by exact (Fr.tr Fr.rf f_20), by first | omega | assumption, by first | omega | assumption, by first | omega | assumption⟩))) | exact Or.inr (Or.inr (Or.inr ((⟨by first | exact slc_v (hk6 q (by omega) ⟨by omega, by omega⟩).2.2.2.1 (hk6 q (by omega) ⟨by omega, by omega⟩).1 (by assumption) (by omega) (fun L h1 h2 => by first | (rw [if_pos (by omega)]; exact f_39 L h1 h2) | (rw [if_neg (by omega)]; exact f_39 L h1 h2)) (by assumption) | rfl, by exact (Fr.tr Fr.rf f_20), by first | omega | assumption, by first | omega | assumption, by first | omega | assumption⟩)))) | exact False.elim (by omega)) dX9_slope_81
        · skip
          refine lv_ldc hC.x hC.b hC.ow (hC.ts _ TK_X9_240) dX9_slope_52 ?_
          exact reti hC hK hR hS (by first | exact Or.inr (Or.inr (Or.inr ((⟨by first | rfl | exact slc_0 (by assumption) (by omega), by exact (Fr.tr Fr.rf f_20), by first | omega | assumption, by first | omega | assumption, by first | omega | assumption⟩)))) | exact False.elim (by omega)) dX9_slope_54
      · skip
        refine lv_astore (lv' := [(4, .ref (G.2.1 20)), (3, .ref (G.2.1 (80 + q))), (0, .ref (G.2.1 0)), (1, .int pl), (2, .int wa)]) hC.x hC.b dX9_slope_42 hl (by decide) rfl (fun ls hl => ?_)
        refine lv_aload hC.x hC.b dX9_slope_44 (lv_at hl 0 rfl) ?_
        refine goip (runV (As := []) (rest := []) hC hK hR hl.1 (c_X3_count l hG s_18 t_19 20 (by decide) ) (call_b hC.ts TC_X3_count TN_X3 TM_X9_235 hd_X3_count ⟨Nat.le_of_ble_eq_true rfl, Nat.le_of_ble_eq_true rfl⟩) TI_X3_count TS_X3_count (ct_gains G _ _) rfl rfl rfl (Nat.le_of_ble_eq_true rfl) dX9_slope_46 ⟨Nat.le_of_ble_eq_true rfl, Nat.le_of_ble_eq_true rfl⟩) hS (fun v_44 H locs w_45 hR hS => ?_)
        subst w_45
        refine bz_ne (tgt := 55) (a := (s_18 20 0).toInt) (b := 0) hC.x hC.b rfl rfl dX9_slope_49 (by decide) (fun c_46 => ?_) (fun c_46 => ?_)
        · skip
          refine lv_iload_n hC.x hC.b dX9_slope_55 rfl (lv_at hl 4 rfl) ?_
          refine bz_ne (tgt := 67) (a := wa.toInt) (b := 0) hC.x hC.b rfl rfl dX9_slope_56 (by decide) (fun c_47 => ?_) (fun c_47 => ?_)
          · skip
            refine lv_aload hC.x hC.b dX9_slope_67 (lv_at hl 0 rfl) ?_
            refine golp (runV (As := []) (rest := []) hC hK hR hl.1 (c5_X3_slopeBelow l hG s_18 t_19 20 (by decide) ) (call_b hC.ts TC_X3_slopeBelow TN_X3 TM_X9_245 hd_X3_slopeBelow ⟨Nat.le_of_ble_eq_true rfl, Nat.le_of_ble_eq_true rfl⟩) TI_X3_slopeBelow TS_X3_slopeBelow (ct_gains G _ _) rfl rfl rfl (Nat.le_of_ble_eq_true rfl) dX9_slope_69 ⟨Nat.le_of_ble_eq_true rfl, Nat.le_of_ble_eq_true rfl⟩) hS (fun v_48 H locs w_49 hR hS => ?_)
            have f_50 := w_49
            refine lv_lstore (lv' := [(5, .long v_48), (4, .ref (G.2.1 20)), (3, .ref (G.2.1 (80 + q))), (0, .ref (G.2.1 0)), (1, .int pl), (2, .int wa)]) hC.x hC.b dX9_slope_72 hl (by decide) rfl (fun ls hl => ?_)
            refine lv_lload hC.x hC.b dX9_slope_74 (lv_at hl 0 rfl) ?_
            refine lv_ldc hC.x hC.b hC.ow (hC.ts _ TK_X9_248) dX9_slope_76 ?_
            have av_51 : (1000000000 : Int32).toInt = 1000000000 := by decide
            refine goip (runS (As := [.long v_48, .int (1000000000 : Int32)]) (rest := []) hC hK hR hl.1 (c_X9_cut l hG s_18 t_19 v_48 (1000000000 : Int32) (by first | decide | omega)) (call_b hC.ts TC_X9_cut TN_X9 TM_X9_249 hd_X9_cut ⟨Nat.le_of_ble_eq_true rfl, Nat.le_of_ble_eq_true rfl⟩) TT_X9_cut rfl rfl (Nat.le_of_ble_eq_true rfl) dX9_slope_78 ⟨Nat.le_of_ble_eq_true rfl, Nat.le_of_ble_eq_true rfl⟩) hS (fun v_52 H locs w_53 hR hS => ?_)
            have f_54 := w_53
            exact reti hC hK hR hS (by first | exact Or.inl (⟨by first | exact slc_v (hk6 q (by omega) ⟨by omega, by omega⟩).2.2.2.1 (hk6 q (by omega) ⟨by omega, by omega⟩).1 (by assumption) (by omega) (fun L h1 h2 => by first | (rw [if_pos (by omega)]; exact f_50 L h1 h2) | (rw [if_neg (by omega)]; exact f_50 L h1 h2)) (by assumption) | rfl, by exact (Fr.tr Fr.rf f_23), by first | omega | assumption⟩) | exact Or.inr (Or.inl (⟨by first | exact slc_v (hk6 q (by omega) ⟨by omega, by omega⟩).2.2.2.1 (hk6 q (by omega) ⟨by omega, by omega⟩).1 (by assumption) (by omega) (fun L h1 h2 => by first | (rw [if_pos (by omega)]; exact f_50 L h1 h2) | (rw [if_neg (by omega)]; exact f_50 L h1 h2)) (by assumption) | rfl, by exact (Fr.tr Fr.rf f_23), by first | omega | assumption, by first | omega | assumption, by first | omega | assumption⟩)) | exact Or.inr (Or.inr (Or.inl (⟨by first | exact slc_v (hk6 q (by omega) ⟨by omega, by omega⟩).2.2.2.1 (hk6 q (by omega) ⟨by omega, by omega⟩).1 (by assumption) (by omega) (fun L h1 h2 => by first | (rw [if_pos (by omega)]; exact f_50 L h1 h2) | (rw [if_neg (by omega)]; exact f_50 L h1 h2)) (by assumption) | rfl, by exact (Fr.tr Fr.rf f_23), by first | omega | assumption, by first | omega | assumption, by first | omega | assumption⟩))) | exact Or.inr (Or.inr (Or.inr ((⟨by first | exact slc_v (hk6 q (by omega) ⟨by omega, by omega⟩).2.2.2.1 (hk6 q (by omega) ⟨by omega, by omega⟩).1 (by assumption) (by omega) (fun L h1 h2 => by first | (rw [if_pos (by omega)]; exact f_50 L h1 h2) | (rw [if_neg (by omega)]; exact f_50 L h1 h2)) (by assumption) | rfl, by exact (Fr.tr Fr.rf f_23), by first | omega | assumption, by first | omega | assumption, by first | omega | assumption⟩)))) | exact False.elim (by omega)) dX9_slope_81
          · skip
            refine lv_aload hC.x hC.b dX9_slope_59 (lv_at hl 0 rfl) ?_
            refine golp (runV (As := []) (rest := []) hC hK hR hl.1 (c5_X3_slopeAbove l hG s_18 t_19 20 (by decide) ) (call_b hC.ts TC_X3_slopeAbove TN_X3 TM_X9_241 hd_X3_slopeAbove ⟨Nat.le_of_ble_eq_true rfl, Nat.le_of_ble_eq_true rfl⟩) TI_X3_slopeAbove TS_X3_slopeAbove (ct_gains G _ _) rfl rfl rfl (Nat.le_of_ble_eq_true rfl) dX9_slope_61 ⟨Nat.le_of_ble_eq_true rfl, Nat.le_of_ble_eq_true rfl⟩) hS (fun v_55 H locs w_56 hR hS => ?_)
            have f_57 := w_56
            refine lv_goto (tgt := 72) hC.x hC.b dX9_slope_64 (by decide) ?_
            refine lv_lstore (lv' := [(5, .long v_55), (4, .ref (G.2.1 20)), (3, .ref (G.2.1 (80 + q))), (0, .ref (G.2.1 0)), (1, .int pl), (2, .int wa)]) hC.x hC.b dX9_slope_72 hl (by decide) rfl (fun ls hl => ?_)
            refine lv_lload hC.x hC.b dX9_slope_74 (lv_at hl 0 rfl) ?_
            refine lv_ldc hC.x hC.b hC.ow (hC.ts _ TK_X9_248) dX9_slope_76 ?_
            have av_58 : (1000000000 : Int32).toInt = 1000000000 := by decide
            refine goip (runS (As := [.long v_55, .int (1000000000 : Int32)]) (rest := []) hC hK hR hl.1 (c_X9_cut l hG s_18 t_19 v_55 (1000000000 : Int32) (by first | decide | omega)) (call_b hC.ts TC_X9_cut TN_X9 TM_X9_249 hd_X9_cut ⟨Nat.le_of_ble_eq_true rfl, Nat.le_of_ble_eq_true rfl⟩) TT_X9_cut rfl rfl (Nat.le_of_ble_eq_true rfl) dX9_slope_78 ⟨Nat.le_of_ble_eq_true rfl, Nat.le_of_ble_eq_true rfl⟩) hS (fun v_59 H locs w_60 hR hS => ?_)
            have f_61 := w_60
            exact reti hC hK hR hS (by first | exact Or.inl (⟨by first | exact slc_v (hk6 q (by omega) ⟨by omega, by omega⟩).2.2.2.1 (hk6 q (by omega) ⟨by omega, by omega⟩).1 (by assumption) (by omega) (fun L h1 h2 => by first | (rw [if_pos (by omega)]; exact f_57 L h1 h2) | (rw [if_neg (by omega)]; exact f_57 L h1 h2)) (by assumption) | rfl, by exact (Fr.tr Fr.rf f_23), by first | omega | assumption⟩) | exact Or.inr (Or.inl (⟨by first | exact slc_v (hk6 q (by omega) ⟨by omega, by omega⟩).2.2.2.1 (hk6 q (by omega) ⟨by omega, by omega⟩).1 (by assumption) (by omega) (fun L h1 h2 => by first | (rw [if_pos (by omega)]; exact f_57 L h1 h2) | (rw [if_neg (by omega)]; exact f_57 L h1 h2)) (by assumption) | rfl, by exact (Fr.tr Fr.rf f_23), by first | omega | assumption, by first | omega | assumption, by first | omega | assumption⟩)) | exact Or.inr (Or.inr (Or.inl (⟨by first | exact slc_v (hk6 q (by omega) ⟨by omega, by omega⟩).2.2.2.1 (hk6 q (by omega) ⟨by omega, by omega⟩).1 (by assumption) (by omega) (fun L h1 h2 => by first | (rw [if_pos (by omega)]; exact f_57 L h1 h2) | (rw [if_neg (by omega)]; exact f_57 L h1 h2)) (by assumption) | rfl, by exact (Fr.tr Fr.rf f_23), by first | omega | assumption, by first | omega | assumption, by first | omega | assumption⟩))) | exact Or.inr (Or.inr (Or.inr ((⟨by first | exact slc_v (hk6 q (by omega) ⟨by omega, by omega⟩).2.2.2.1 (hk6 q (by omega) ⟨by omega, by omega⟩).1 (by assumption) (by omega) (fun L h1 h2 => by first | (rw [if_pos (by omega)]; exact f_57 L h1 h2) | (rw [if_neg (by omega)]; exact f_57 L h1 h2)) (by assumption) | rfl, by exact (Fr.tr Fr.rf f_23), by first | omega | assumption, by first | omega | assumption, by first | omega | assumption⟩)))) | exact False.elim (by omega)) dX9_slope_81
        · skip
          refine lv_ldc hC.x hC.b hC.ow (hC.ts _ TK_X9_240) dX9_slope_52 ?_
          exact reti hC hK hR hS (by first | exact Or.inr (Or.inr (Or.inr ((⟨by first | rfl | exact slc_0 (by assumption) (by omega), by exact (Fr.tr Fr.rf f_23), by first | omega | assumption, by first | omega | assumption, by first | omega | assumption⟩)))) | exact False.elim (by omega)) dX9_slope_54
    · skip
      refine lv_iload_n hC.x hC.b dX9_slope_23 rfl (lv_at hl 3 rfl) ?_
      refine lv_iconst (v := 1) hC.x hC.b dX9_slope_24 (by decide) ?_
      refine bi_eq (tgt := 30) (a := wa.toInt) (b := 1) hC.x hC.b rfl rfl dX9_slope_25 (by decide) (fun c_62 => ?_) (fun c_62 => ?_)
      · skip
        refine lv_aload_n hC.x hC.b dX9_slope_30 rfl (lv_at hl 1 rfl) ?_
        refine rget hC hK hR (ct_bench G _ _) rfl uin_X9 4 (by decide) TF_X9_44 rfl dX9_slope_31 ?_
        refine lv_aload_n hC.x hC.b dX9_slope_34 rfl (lv_at hl 0 rfl) ?_
        refine lv_aload_n hC.x hC.b dX9_slope_35 rfl (lv_at hl 1 rfl) ?_
        refine rget hC hK hR (ct_bench G _ _) rfl uin_X9 8 (by decide) TF_X9_65 rfl dX9_slope_36 ?_
        refine goq (runV (As := [.ref (G.2.1 (80 + q)), .int (σ 0 8)]) (rest := []) hC hK hR hl.1 (c5_X2_lineOf l hG σ τ q hq_14 (σ 0 8) (by first | omega | assumption) (by exact (hk6 q (by omega) ⟨by omega, by omega⟩))) (call_b hC.ts TC_X2_lineOf TN_X2 TM_X9_231 hd_X2_lineOf ⟨Nat.le_of_ble_eq_true rfl, Nat.le_of_ble_eq_true rfl⟩) TI_X2_lineOf TS_X2_lineOf (ct_fore G _ _) rfl rfl rfl (Nat.le_of_ble_eq_true rfl) dX9_slope_39 ⟨Nat.le_of_ble_eq_true rfl, Nat.le_of_ble_eq_true rfl⟩) hS (fun v_63 s_65 t_66 H locs w_64 hR hS => ?_)
        try dsimp only [po5_X2_lineOf] at w_64
        rcases w_64 with ⟨rfl, f_67, f_68, f_69⟩ | ⟨rfl, f_70, f_71, f_72⟩
        · skip
          refine lv_astore (lv' := [(4, .ref (G.2.1 19)), (3, .ref (G.2.1 (80 + q))), (0, .ref (G.2.1 0)), (1, .int pl), (2, .int wa)]) hC.x hC.b dX9_slope_42 hl (by decide) rfl (fun ls hl => ?_)
          refine lv_aload hC.x hC.b dX9_slope_44 (lv_at hl 0 rfl) ?_
          refine goip (runV (As := []) (rest := []) hC hK hR hl.1 (c_X3_count l hG s_65 t_66 19 (by decide) ) (call_b hC.ts TC_X3_count TN_X3 TM_X9_235 hd_X3_count ⟨Nat.le_of_ble_eq_true rfl, Nat.le_of_ble_eq_true rfl⟩) TI_X3_count TS_X3_count (ct_xs G _ _) rfl rfl rfl (Nat.le_of_ble_eq_true rfl) dX9_slope_46 ⟨Nat.le_of_ble_eq_true rfl, Nat.le_of_ble_eq_true rfl⟩) hS (fun v_73 H locs w_74 hR hS => ?_)
          subst w_74
          refine bz_ne (tgt := 55) (a := (s_65 19 0).toInt) (b := 0) hC.x hC.b rfl rfl dX9_slope_49 (by decide) (fun c_75 => ?_) (fun c_75 => ?_)
          · skip
            refine lv_iload_n hC.x hC.b dX9_slope_55 rfl (lv_at hl 4 rfl) ?_
            refine bz_ne (tgt := 67) (a := wa.toInt) (b := 0) hC.x hC.b rfl rfl dX9_slope_56 (by decide) (fun c_76 => ?_) (fun c_76 => ?_)
            · skip
              refine lv_aload hC.x hC.b dX9_slope_67 (lv_at hl 0 rfl) ?_
              refine golp (runV (As := []) (rest := []) hC hK hR hl.1 (c5_X3_slopeBelow l hG s_65 t_66 19 (by decide) ) (call_b hC.ts TC_X3_slopeBelow TN_X3 TM_X9_245 hd_X3_slopeBelow ⟨Nat.le_of_ble_eq_true rfl, Nat.le_of_ble_eq_true rfl⟩) TI_X3_slopeBelow TS_X3_slopeBelow (ct_xs G _ _) rfl rfl rfl (Nat.le_of_ble_eq_true rfl) dX9_slope_69 ⟨Nat.le_of_ble_eq_true rfl, Nat.le_of_ble_eq_true rfl⟩) hS (fun v_77 H locs w_78 hR hS => ?_)
              have f_79 := w_78
              refine lv_lstore (lv' := [(5, .long v_77), (4, .ref (G.2.1 19)), (3, .ref (G.2.1 (80 + q))), (0, .ref (G.2.1 0)), (1, .int pl), (2, .int wa)]) hC.x hC.b dX9_slope_72 hl (by decide) rfl (fun ls hl => ?_)
              refine lv_lload hC.x hC.b dX9_slope_74 (lv_at hl 0 rfl) ?_
              refine lv_ldc hC.x hC.b hC.ow (hC.ts _ TK_X9_248) dX9_slope_76 ?_
              have av_80 : (1000000000 : Int32).toInt = 1000000000 := by decide
              refine goip (runS (As := [.long v_77, .int (1000000000 : Int32)]) (rest := []) hC hK hR hl.1 (c_X9_cut l hG s_65 t_66 v_77 (1000000000 : Int32) (by first | decide | omega)) (call_b hC.ts TC_X9_cut TN_X9 TM_X9_249 hd_X9_cut ⟨Nat.le_of_ble_eq_true rfl, Nat.le_of_ble_eq_true rfl⟩) TT_X9_cut rfl rfl (Nat.le_of_ble_eq_true rfl) dX9_slope_78 ⟨Nat.le_of_ble_eq_true rfl, Nat.le_of_ble_eq_true rfl⟩) hS (fun v_81 H locs w_82 hR hS => ?_)
              have f_83 := w_82
              exact reti hC hK hR hS (by first | exact Or.inl (⟨by first | exact slc_v (hk6 q (by omega) ⟨by omega, by omega⟩).2.2.2.1 (hk6 q (by omega) ⟨by omega, by omega⟩).1 (by assumption) (by omega) (fun L h1 h2 => by first | (rw [if_pos (by omega)]; exact f_79 L h1 h2) | (rw [if_neg (by omega)]; exact f_79 L h1 h2)) (by assumption) | rfl, by exact (Fr.tr Fr.rf f_67), by first | omega | assumption⟩) | exact Or.inr (Or.inl (⟨by first | exact slc_v (hk6 q (by omega) ⟨by omega, by omega⟩).2.2.2.1 (hk6 q (by omega) ⟨by omega, by omega⟩).1 (by assumption) (by omega) (fun L h1 h2 => by first | (rw [if_pos (by omega)]; exact f_79 L h1 h2) | (rw [if_neg (by omega)]; exact f_79 L h1 h2)) (by assumption) | rfl, by exact (Fr.tr Fr.rf f_67), by first | omega | assumption, by first | omega | assumption, by first | omega | assumption⟩)) | exact Or.inr (Or.inr (Or.inl (⟨by first | exact slc_v (hk6 q (by omega) ⟨by omega, by omega⟩).2.2.2.1 (hk6 q (by omega) ⟨by omega, by omega⟩).1 (by assumption) (by omega) (fun L h1 h2 => by first | (rw [if_pos (by omega)]; exact f_79 L h1 h2) | (rw [if_neg (by omega)]; exact f_79 L h1 h2)) (by assumption) | rfl, by exact (Fr.tr Fr.rf f_67), by first | omega | assumption, by first | omega | assumption, by first | omega | assumption⟩))) | exact Or.inr (Or.inr (Or.inr ((⟨by first | exact slc_v (hk6 q (by omega) ⟨by omega, by omega⟩).2.2.2.1 (hk6 q (by omega) ⟨by omega, by omega⟩).1 (by assumption) (by omega) (fun L h1 h2 => by first | (rw [if_pos (by omega)]; exact f_79 L h1 h2) | (rw [if_neg (by omega)]; exact f_79 L h1 h2)) (by assumption) | rfl, by exact (Fr.tr Fr.rf f_67), by first | omega | assumption, by first | omega | assumption, by first | omega | assumption⟩)))) | exact False.elim (by omega)) dX9_slope_81
            · skip
              refine lv_aload hC.x hC.b dX9_slope_59 (lv_at hl 0 rfl) ?_
              refine golp (runV (As := []) (rest := []) hC hK hR hl.1 (c5_X3_slopeAbove l hG s_65 t_66 19 (by decide) ) (call_b hC.ts TC_X3_slopeAbove TN_X3 TM_X9_241 hd_X3_slopeAbove ⟨Nat.le_of_ble_eq_true rfl, Nat.le_of_ble_eq_true rfl⟩) TI_X3_slopeAbove TS_X3_slopeAbove (ct_xs G _ _) rfl rfl rfl (Nat.le_of_ble_eq_true rfl) dX9_slope_61 ⟨Nat.le_of_ble_eq_true rfl, Nat.le_of_ble_eq_true rfl⟩) hS (fun v_84 H locs w_85 hR hS => ?_)
              have f_86 := w_85
              refine lv_goto (tgt := 72) hC.x hC.b dX9_slope_64 (by decide) ?_
              refine lv_lstore (lv' := [(5, .long v_84), (4, .ref (G.2.1 19)), (3, .ref (G.2.1 (80 + q))), (0, .ref (G.2.1 0)), (1, .int pl), (2, .int wa)]) hC.x hC.b dX9_slope_72 hl (by decide) rfl (fun ls hl => ?_)
              refine lv_lload hC.x hC.b dX9_slope_74 (lv_at hl 0 rfl) ?_
              refine lv_ldc hC.x hC.b hC.ow (hC.ts _ TK_X9_248) dX9_slope_76 ?_
              have av_87 : (1000000000 : Int32).toInt = 1000000000 := by decide
              refine goip (runS (As := [.long v_84, .int (1000000000 : Int32)]) (rest := []) hC hK hR hl.1 (c_X9_cut l hG s_65 t_66 v_84 (1000000000 : Int32) (by first | decide | omega)) (call_b hC.ts TC_X9_cut TN_X9 TM_X9_249 hd_X9_cut ⟨Nat.le_of_ble_eq_true rfl, Nat.le_of_ble_eq_true rfl⟩) TT_X9_cut rfl rfl (Nat.le_of_ble_eq_true rfl) dX9_slope_78 ⟨Nat.le_of_ble_eq_true rfl, Nat.le_of_ble_eq_true rfl⟩) hS (fun v_88 H locs w_89 hR hS => ?_)
              have f_90 := w_89
              exact reti hC hK hR hS (by first | exact Or.inl (⟨by first | exact slc_v (hk6 q (by omega) ⟨by omega, by omega⟩).2.2.2.1 (hk6 q (by omega) ⟨by omega, by omega⟩).1 (by assumption) (by omega) (fun L h1 h2 => by first | (rw [if_pos (by omega)]; exact f_86 L h1 h2) | (rw [if_neg (by omega)]; exact f_86 L h1 h2)) (by assumption) | rfl, by exact (Fr.tr Fr.rf f_67), by first | omega | assumption⟩) | exact Or.inr (Or.inl (⟨by first | exact slc_v (hk6 q (by omega) ⟨by omega, by omega⟩).2.2.2.1 (hk6 q (by omega) ⟨by omega, by omega⟩).1 (by assumption) (by omega) (fun L h1 h2 => by first | (rw [if_pos (by omega)]; exact f_86 L h1 h2) | (rw [if_neg (by omega)]; exact f_86 L h1 h2)) (by assumption) | rfl, by exact (Fr.tr Fr.rf f_67), by first | omega | assumption, by first | omega | assumption, by first | omega | assumption⟩)) | exact Or.inr (Or.inr (Or.inl (⟨by first | exact slc_v (hk6 q (by omega) ⟨by omega, by omega⟩).2.2.2.1 (hk6 q (by omega) ⟨by omega, by omega⟩).1 (by assumption) (by omega) (fun L h1 h2 => by first | (rw [if_pos (by omega)]; exact f_86 L h1 h2) | (rw [if_neg (by omega)]; exact f_86 L h1 h2)) (by assumption) | rfl, by exact (Fr.tr Fr.rf f_67), by first | omega | assumption, by first | omega | assumption, by first | omega | assumption⟩))) | exact Or.inr (Or.inr (Or.inr ((⟨by first | exact slc_v (hk6 q (by omega) ⟨by omega, by omega⟩).2.2.2.1 (hk6 q (by omega) ⟨by omega, by omega⟩).1 (by assumption) (by omega) (fun L h1 h2 => by first | (rw [if_pos (by omega)]; exact f_86 L h1 h2) | (rw [if_neg (by omega)]; exact f_86 L h1 h2)) (by assumption) | rfl, by exact (Fr.tr Fr.rf f_67), by first | omega | assumption, by first | omega | assumption, by first | omega | assumption⟩)))) | exact False.elim (by omega)) dX9_slope_81
          · skip
            refine lv_ldc hC.x hC.b hC.ow (hC.ts _ TK_X9_240) dX9_slope_52 ?_
            exact reti hC hK hR hS (by first | exact Or.inr (Or.inr (Or.inr ((⟨by first | rfl | exact slc_0 (by assumption) (by omega), by exact (Fr.tr Fr.rf f_67), by first | omega | assumption, by first | omega | assumption, by first | omega | assumption⟩)))) | exact False.elim (by omega)) dX9_slope_54
        · skip
          refine lv_astore (lv' := [(4, .ref (G.2.1 20)), (3, .ref (G.2.1 (80 + q))), (0, .ref (G.2.1 0)), (1, .int pl), (2, .int wa)]) hC.x hC.b dX9_slope_42 hl (by decide) rfl (fun ls hl => ?_)
          refine lv_aload hC.x hC.b dX9_slope_44 (lv_at hl 0 rfl) ?_
          refine goip (runV (As := []) (rest := []) hC hK hR hl.1 (c_X3_count l hG s_65 t_66 20 (by decide) ) (call_b hC.ts TC_X3_count TN_X3 TM_X9_235 hd_X3_count ⟨Nat.le_of_ble_eq_true rfl, Nat.le_of_ble_eq_true rfl⟩) TI_X3_count TS_X3_count (ct_gains G _ _) rfl rfl rfl (Nat.le_of_ble_eq_true rfl) dX9_slope_46 ⟨Nat.le_of_ble_eq_true rfl, Nat.le_of_ble_eq_true rfl⟩) hS (fun v_91 H locs w_92 hR hS => ?_)
          subst w_92
          refine bz_ne (tgt := 55) (a := (s_65 20 0).toInt) (b := 0) hC.x hC.b rfl rfl dX9_slope_49 (by decide) (fun c_93 => ?_) (fun c_93 => ?_)
          · skip
            refine lv_iload_n hC.x hC.b dX9_slope_55 rfl (lv_at hl 4 rfl) ?_
            refine bz_ne (tgt := 67) (a := wa.toInt) (b := 0) hC.x hC.b rfl rfl dX9_slope_56 (by decide) (fun c_94 => ?_) (fun c_94 => ?_)
            · skip
              refine lv_aload hC.x hC.b dX9_slope_67 (lv_at hl 0 rfl) ?_
              refine golp (runV (As := []) (rest := []) hC hK hR hl.1 (c5_X3_slopeBelow l hG s_65 t_66 20 (by decide) ) (call_b hC.ts TC_X3_slopeBelow TN_X3 TM_X9_245 hd_X3_slopeBelow ⟨Nat.le_of_ble_eq_true rfl, Nat.le_of_ble_eq_true rfl⟩) TI_X3_slopeBelow TS_X3_slopeBelow (ct_gains G _ _) rfl rfl rfl (Nat.le_of_ble_eq_true rfl) dX9_slope_69 ⟨Nat.le_of_ble_eq_true rfl, Nat.le_of_ble_eq_true rfl⟩) hS (fun v_95 H locs w_96 hR hS => ?_)
              have f_97 := w_96
              refine lv_lstore (lv' := [(5, .long v_95), (4, .ref (G.2.1 20)), (3, .ref (G.2.1 (80 + q))), (0, .ref (G.2.1 0)), (1, .int pl), (2, .int wa)]) hC.x hC.b dX9_slope_72 hl (by decide) rfl (fun ls hl => ?_)
              refine lv_lload hC.x hC.b dX9_slope_74 (lv_at hl 0 rfl) ?_
              refine lv_ldc hC.x hC.b hC.ow (hC.ts _ TK_X9_248) dX9_slope_76 ?_
              have av_98 : (1000000000 : Int32).toInt = 1000000000 := by decide
              refine goip (runS (As := [.long v_95, .int (1000000000 : Int32)]) (rest := []) hC hK hR hl.1 (c_X9_cut l hG s_65 t_66 v_95 (1000000000 : Int32) (by first | decide | omega)) (call_b hC.ts TC_X9_cut TN_X9 TM_X9_249 hd_X9_cut ⟨Nat.le_of_ble_eq_true rfl, Nat.le_of_ble_eq_true rfl⟩) TT_X9_cut rfl rfl (Nat.le_of_ble_eq_true rfl) dX9_slope_78 ⟨Nat.le_of_ble_eq_true rfl, Nat.le_of_ble_eq_true rfl⟩) hS (fun v_99 H locs w_100 hR hS => ?_)
              have f_101 := w_100
              exact reti hC hK hR hS (by first | exact Or.inl (⟨by first | exact slc_v (hk6 q (by omega) ⟨by omega, by omega⟩).2.2.2.1 (hk6 q (by omega) ⟨by omega, by omega⟩).1 (by assumption) (by omega) (fun L h1 h2 => by first | (rw [if_pos (by omega)]; exact f_97 L h1 h2) | (rw [if_neg (by omega)]; exact f_97 L h1 h2)) (by assumption) | rfl, by exact (Fr.tr Fr.rf f_70), by first | omega | assumption⟩) | exact Or.inr (Or.inl (⟨by first | exact slc_v (hk6 q (by omega) ⟨by omega, by omega⟩).2.2.2.1 (hk6 q (by omega) ⟨by omega, by omega⟩).1 (by assumption) (by omega) (fun L h1 h2 => by first | (rw [if_pos (by omega)]; exact f_97 L h1 h2) | (rw [if_neg (by omega)]; exact f_97 L h1 h2)) (by assumption) | rfl, by exact (Fr.tr Fr.rf f_70), by first | omega | assumption, by first | omega | assumption, by first | omega | assumption⟩)) | exact Or.inr (Or.inr (Or.inl (⟨by first | exact slc_v (hk6 q (by omega) ⟨by omega, by omega⟩).2.2.2.1 (hk6 q (by omega) ⟨by omega, by omega⟩).1 (by assumption) (by omega) (fun L h1 h2 => by first | (rw [if_pos (by omega)]; exact f_97 L h1 h2) | (rw [if_neg (by omega)]; exact f_97 L h1 h2)) (by assumption) | rfl, by exact (Fr.tr Fr.rf f_70), by first | omega | assumption, by first | omega | assumption, by first | omega | assumption⟩))) | exact Or.inr (Or.inr (Or.inr ((⟨by first | exact slc_v (hk6 q (by omega) ⟨by omega, by omega⟩).2.2.2.1 (hk6 q (by omega) ⟨by omega, by omega⟩).1 (by assumption) (by omega) (fun L h1 h2 => by first | (rw [if_pos (by omega)]; exact f_97 L h1 h2) | (rw [if_neg (by omega)]; exact f_97 L h1 h2)) (by assumption) | rfl, by exact (Fr.tr Fr.rf f_70), by first | omega | assumption, by first | omega | assumption, by first | omega | assumption⟩)))) | exact False.elim (by omega)) dX9_slope_81
            · skip
              refine lv_aload hC.x hC.b dX9_slope_59 (lv_at hl 0 rfl) ?_
              refine golp (runV (As := []) (rest := []) hC hK hR hl.1 (c5_X3_slopeAbove l hG s_65 t_66 20 (by decide) ) (call_b hC.ts TC_X3_slopeAbove TN_X3 TM_X9_241 hd_X3_slopeAbove ⟨Nat.le_of_ble_eq_true rfl, Nat.le_of_ble_eq_true rfl⟩) TI_X3_slopeAbove TS_X3_slopeAbove (ct_gains G _ _) rfl rfl rfl (Nat.le_of_ble_eq_true rfl) dX9_slope_61 ⟨Nat.le_of_ble_eq_true rfl, Nat.le_of_ble_eq_true rfl⟩) hS (fun v_102 H locs w_103 hR hS => ?_)
              have f_104 := w_103
              refine lv_goto (tgt := 72) hC.x hC.b dX9_slope_64 (by decide) ?_
              refine lv_lstore (lv' := [(5, .long v_102), (4, .ref (G.2.1 20)), (3, .ref (G.2.1 (80 + q))), (0, .ref (G.2.1 0)), (1, .int pl), (2, .int wa)]) hC.x hC.b dX9_slope_72 hl (by decide) rfl (fun ls hl => ?_)
              refine lv_lload hC.x hC.b dX9_slope_74 (lv_at hl 0 rfl) ?_
              refine lv_ldc hC.x hC.b hC.ow (hC.ts _ TK_X9_248) dX9_slope_76 ?_
              have av_105 : (1000000000 : Int32).toInt = 1000000000 := by decide
              refine goip (runS (As := [.long v_102, .int (1000000000 : Int32)]) (rest := []) hC hK hR hl.1 (c_X9_cut l hG s_65 t_66 v_102 (1000000000 : Int32) (by first | decide | omega)) (call_b hC.ts TC_X9_cut TN_X9 TM_X9_249 hd_X9_cut ⟨Nat.le_of_ble_eq_true rfl, Nat.le_of_ble_eq_true rfl⟩) TT_X9_cut rfl rfl (Nat.le_of_ble_eq_true rfl) dX9_slope_78 ⟨Nat.le_of_ble_eq_true rfl, Nat.le_of_ble_eq_true rfl⟩) hS (fun v_106 H locs w_107 hR hS => ?_)
              have f_108 := w_107
              exact reti hC hK hR hS (by first | exact Or.inl (⟨by first | exact slc_v (hk6 q (by omega) ⟨by omega, by omega⟩).2.2.2.1 (hk6 q (by omega) ⟨by omega, by omega⟩).1 (by assumption) (by omega) (fun L h1 h2 => by first | (rw [if_pos (by omega)]; exact f_104 L h1 h2) | (rw [if_neg (by omega)]; exact f_104 L h1 h2)) (by assumption) | rfl, by exact (Fr.tr Fr.rf f_70), by first | omega | assumption⟩) | exact Or.inr (Or.inl (⟨by first | exact slc_v (hk6 q (by omega) ⟨by omega, by omega⟩).2.2.2.1 (hk6 q (by omega) ⟨by omega, by omega⟩).1 (by assumption) (by omega) (fun L h1 h2 => by first | (rw [if_pos (by omega)]; exact f_104 L h1 h2) | (rw [if_neg (by omega)]; exact f_104 L h1 h2)) (by assumption) | rfl, by exact (Fr.tr Fr.rf f_70), by first | omega | assumption, by first | omega | assumption, by first | omega | assumption⟩)) | exact Or.inr (Or.inr (Or.inl (⟨by first | exact slc_v (hk6 q (by omega) ⟨by omega, by omega⟩).2.2.2.1 (hk6 q (by omega) ⟨by omega, by omega⟩).1 (by assumption) (by omega) (fun L h1 h2 => by first | (rw [if_pos (by omega)]; exact f_104 L h1 h2) | (rw [if_neg (by omega)]; exact f_104 L h1 h2)) (by assumption) | rfl, by exact (Fr.tr Fr.rf f_70), by first | omega | assumption, by first | omega | assumption, by first | omega | assumption⟩))) | exact Or.inr (Or.inr (Or.inr ((⟨by first | exact slc_v (hk6 q (by omega) ⟨by omega, by omega⟩).2.2.2.1 (hk6 q (by omega) ⟨by omega, by omega⟩).1 (by assumption) (by omega) (fun L h1 h2 => by first | (rw [if_pos (by omega)]; exact f_104 L h1 h2) | (rw [if_neg (by omega)]; exact f_104 L h1 h2)) (by assumption) | rfl, by exact (Fr.tr Fr.rf f_70), by first | omega | assumption, by first | omega | assumption, by first | omega | assumption⟩)))) | exact False.elim (by omega)) dX9_slope_81
          · skip
            refine lv_ldc hC.x hC.b hC.ow (hC.ts _ TK_X9_240) dX9_slope_52 ?_
            exact reti hC hK hR hS (by first | exact Or.inr (Or.inr (Or.inr ((⟨by first | rfl | exact slc_0 (by assumption) (by omega), by exact (Fr.tr Fr.rf f_70), by first | omega | assumption, by first | omega | assumption, by first | omega | assumption⟩)))) | exact False.elim (by omega)) dX9_slope_54
      · skip
        refine lv_iconst (v := (-1)) hC.x hC.b dX9_slope_28 (by decide) ?_
        exact reti hC hK hR hS (by first | exact Or.inl (⟨by first | rfl | exact slc_0 (by assumption) (by omega), by exact Fr.rf, by first | omega | assumption⟩) | exact Or.inr (Or.inr (Or.inl (⟨by first | rfl | exact slc_0 (by assumption) (by omega), by exact Fr.rf, by first | omega | assumption, by first | omega | assumption, by first | omega | assumption⟩))) | exact Or.inr (Or.inr (Or.inr ((⟨by first | rfl | exact slc_0 (by assumption) (by omega), by exact Fr.rf, by first | omega | assumption, by first | omega | assumption, by first | omega | assumption⟩)))) | exact False.elim (by omega)) dX9_slope_29
/-! ===== both sides answer the same out of the past ===== -/
theorem rel6_0 : Rel6 s0 := by
  have e29 : (s0 35 29).toInt.toNat = 0 := by decide
  refine ⟨?_, ⟨by decide, by decide⟩, fun j => ?_, fun q hq hk => ?_⟩
  · unfold RT6
    rw [e29]
    refine ⟨fun i hi => absurd hi (by omega), fun i _ _ => ⟨?_, ?_, ?_, ?_⟩, fun h hh => absurd hh (by omega), fun h _ _ k k1 k2 => ?_, rfl, fun j => ?_⟩
    · show (2000000000 : Int32).toInt = _
      decide
    · show (2000000000 : Int32).toInt = _
      decide
    · show (2000000000 : Int32).toInt = _
      decide
    · show (2000000000 : Int32).toInt = _
      decide
    · have c : k = 29 ∨ k = 30 ∨ k = 31 ∨ k = 32 ∨ k = 33 ∨ k = 34 := by omega
      rcases c with c | c | c | c | c | c <;> subst c <;> (show (-1 : Int32).toInt = -1; decide)
    · show -1100000000 ≤ (0 : Int32).toInt ∧ (0 : Int32).toInt ≤ 1100000000
      decide
  · show (-10000 ≤ (0 : Int32).toInt ∧ (0 : Int32).toInt ≤ 10000) ∧ (-10000 ≤ (0 : Int32).toInt ∧ (0 : Int32).toInt ≤ 10000) ∧ (-10000 ≤ (0 : Int32).toInt ∧ (0 : Int32).toInt ≤ 10000)
    decide
  · have hk : 0 ≤ (-1 : Int32).toInt ∧ (-1 : Int32).toInt ≤ 3 := hk
    exact absurd hk (by decide)
def MPre (σ : SI) : Prop := XB σ ∧ Cl6 σ ∧ SU6 σ
theorem mpre_of {σ : SI} (h : Rel6 σ) : MPre σ := ⟨h.1.2.2.2.2.2, cl6_of h, su6_of h⟩
theorem MPre.fr {σ s : SI} (h : MPre σ) (f : Cfr σ s) : MPre s := by
  refine ⟨h.1.ex (f 54 (by omega) (by omega)), h.2.1.ex (f 36 (by omega) (by omega)) (f 37 (by omega) (by omega)) (f 38 (by omega) (by omega)), ?_⟩
  have g := h.2.2
  unfold SU6 isMp isXp at g ⊢
  rw [f 35 (by omega) (by omega), f 36 (by omega) (by omega), f 43 (by omega) (by omega), f 44 (by omega) (by omega), f 52 (by omega) (by omega), f 53 (by omega) (by omega)]
  exact g
section AG6
variable {σ s1 s2 : SI} {τ t1 t2 : SL} {v v2 : Int32} {pl wa hr ia : Int32} {q : Nat}
theorem cfr_close6 (w : po6_X9_close σ τ v (s1, t1)) : Cfr σ s1 := by
  rcases w with ⟨-, e, -⟩ | ⟨-, e, -⟩
  · have e : s1 = σ := e
    rw [e]
    exact fun _ _ _ => rfl
  · have e : ClC σ s1 := e
    exact fun k a b => e.1 k (by omega)
theorem c69 {u : SI × SL} (w : po6_X9_close σ τ v u) : po4_X9_close σ τ v u := by
  rcases w with h | ⟨a, b, c, d, e, -⟩
  · exact Or.inl h
  · exact Or.inr ⟨a, b, c, d, e⟩
theorem c710 {u : SI × SL} (w : po7_X10_close σ τ v u) : po4_X10_close σ τ v u := by
  rcases w with h | ⟨a, b, c, d, e, f, -⟩
  · exact Or.inl h
  · exact Or.inr ⟨a, b, c, d, e, f⟩
theorem rel6_close (hI : Inv6 σ) (hI2 : Inv s2) (w : po6_X9_close σ τ v (s1, t1)) (w2 : po7_X10_close s1 t1 v2 (s2, t2)) : Rel6 s2 := by
  have hL : σ 0 8 = σ 35 29 := hI.1.2.2.1
  have hv := ag_close hI.2.1 hI.2.2.1 hI.1.1.1 hL (c69 w) (c710 w2)
  rcases w with ⟨-, e, -, w0⟩ | ⟨w0, wc, -, -, -, wx⟩
  · have e : s1 = σ := e
    rcases w2 with ⟨-, -, -, f⟩ | ⟨-, f, -⟩
    · have f : s2 = s1 := f
      rw [f, e]
      exact hI.2.2.2
    · exfalso
      rw [e] at f
      rw [hL] at w0
      omega
  · have wc : ClC σ s1 := wc
    have e29 : s1 35 29 = σ 35 29 := by rw [wc.1 35 (by omega)]
    rcases w2 with ⟨-, -, f, -⟩ | ⟨r, -, -, -, -, -, wz⟩
    · exfalso
      rw [e29] at f
      rw [hL] at w0
      omega
    · have r : MRel _ _ s1 s2 := r
      exact rel6_cl hI hI2.2.2 wc (Mfr.mr r (fun k hk => by first | omega | (dsimp only at hk; omega))) ⟨fun k a b c d => r.1 k (by omega) (by first | omega | (dsimp only; omega)), r.2 30 (by first | omega | (dsimp only; omega)), r.2 31 (by first | omega | (dsimp only; omega))⟩ wx wz hv w0
theorem ag_paper (h : Inv6 σ) (w : v = ofP σ wa hr) (w2 : v2 = ofPM σ wa hr) : v = v2 := by
  obtain ⟨⟨hM, -, -⟩, -, -, hT, -⟩ := h
  have hn := hM.1
  rw [w, w2]
  unfold ofP ofPM
  have n1 : ∀ x : Int32, x.toInt = -1 → x = -1 := fun x hx => i32_ext (hx.trans (by decide))
  by_cases z : 0 ≤ hr.toInt ∧ hr.toInt ≤ (σ 35 29).toInt - 1
  · rcases hT.2.2.1 hr.toInt.toNat (by omega) with ⟨p0, p1, p2, p3, p4, p5, p6⟩ | ⟨p0, p1⟩
    · rw [if_neg (show ¬ (¬ (0 ≤ hr.toInt ∧ hr.toInt ≤ (σ 35 29).toInt - 1) ∨ (σ 59 hr.toInt.toNat).toInt = -1) by omega)]
      by_cases y : wa.toInt < 0 ∨ 6 ≤ wa.toInt
      · rw [if_pos (by omega), if_neg (by omega), if_neg (by omega), if_neg (by omega), if_neg (by omega), if_neg (by omega), if_neg (by omega)]
      · rw [if_neg (by omega)]
        have c : wa.toInt = 0 ∨ wa.toInt = 1 ∨ wa.toInt = 2 ∨ wa.toInt = 3 ∨ wa.toInt = 4 ∨ wa.toInt = 5 := by omega
        rcases c with c | c | c | c | c | c
        · rw [if_pos c, c]; exact p1
        · rw [if_neg (by omega), if_pos c, c]; exact p2
        · rw [if_neg (by omega), if_neg (by omega), if_pos c, c]; exact p3
        · rw [if_neg (by omega), if_neg (by omega), if_neg (by omega), if_pos c, c]; exact p4
        · rw [if_neg (by omega), if_neg (by omega), if_neg (by omega), if_neg (by omega), if_pos c, c]; exact p5
        · rw [if_neg (by omega), if_neg (by omega), if_neg (by omega), if_neg (by omega), if_neg (by omega), if_pos c, c]; exact p6
    · rw [if_pos (show ¬ (0 ≤ hr.toInt ∧ hr.toInt ≤ (σ 35 29).toInt - 1) ∨ (σ 59 hr.toInt.toNat).toInt = -1 from Or.inr p0)]
      by_cases y : wa.toInt < 0 ∨ 6 ≤ wa.toInt
      · rw [if_pos (by omega)]
      · rw [if_neg (by omega)]
        exact n1 _ (p1 _ (by omega) (by omega))
  · rw [if_pos (show ¬ (0 ≤ hr.toInt ∧ hr.toInt ≤ (σ 35 29).toInt - 1) ∨ (σ 59 hr.toInt.toNat).toInt = -1 from Or.inl z)]
    by_cases y : wa.toInt < 0 ∨ 6 ≤ wa.toInt ∨ hr.toInt < 0 ∨ 200 ≤ hr.toInt
    · rw [if_pos y]
    · rw [if_neg y]
      exact n1 _ (hT.2.2.2.1 hr.toInt.toNat (by omega) (by omega) _ (by omega) (by omega))
theorem ag_step (h : Inv6 σ) (w : v = ofS σ ia wa) (w2 : v2 = ofSM σ ia wa) : v = v2 := by
  obtain ⟨⟨hM, -, -⟩, -, -, hT, -⟩ := h
  have hs := hM.2.2.2.2.1.2.2.2
  have g := hT.2.2.2.2.1
  unfold stC stM6 at g
  simp only [Prod.mk.injEq] at g
  obtain ⟨g1, g2, g3, g4⟩ := g
  rw [w, w2]
  unfold ofS ofSM
  rw [g1, g2, g3, g4]
  by_cases z : 0 ≤ ia.toInt ∧ ia.toInt ≤ (σ 35 37).toInt - 1
  · rw [if_neg (by omega), if_neg (show ¬ ¬ (0 ≤ ia.toInt ∧ ia.toInt ≤ (σ 35 37).toInt - 1) from fun y => y z)]
  · rw [if_pos (by omega), if_pos z]
theorem ag_clock (h : Inv6 σ) (hq : pl.toInt.toNat = q) (w : po8_X9_clock σ τ pl q wa v (σ, τ)) (w2 : po8_X10_clock σ τ pl q wa v2 (σ, τ)) : v = v2 := by
  obtain ⟨⟨hM, -, hL⟩, hR, -, hT, -, -, hK⟩ := h
  obtain ⟨-, w⟩ := w
  obtain ⟨-, w2⟩ := w2
  have kq := rel_kq hR hq
  by_cases hp : 0 ≤ pl.toInt ∧ pl.toInt < 24
  · have kk := kq hp
    have hq24 : q < 24 := by omega
    rcases w with ⟨e0, a1⟩ | ⟨e0, a1, a2, a3⟩ | ⟨a1, a2, w⟩ <;> rcases w2 with ⟨f0, b1⟩ | ⟨f0, b1, b2, b3⟩ | ⟨b1, b2, w2⟩ <;>
    first
    | exact e0.trans f0.symm
    | (exfalso; omega)
    | (have ck := hK q hq24 b2
       have kr := (hR q hq24).2.2.2 b2
       rw [ck.2.2.2.1, (xc_px hT ck hM.1 hq24).1, hL.1, kr.2.1, ck.1.1, ck.2.1.1, ck.2.2.2.2.2.1, ck.2.2.2.2.2.2.1] at w
       refine CKV.ag (tk_ag hR hq24) ?_ w w2
       have hn := hM.1
       rcases ck.2.2.2.2.1 with e | ⟨e1, e2⟩
       · rw [e]
       · constructor <;> intro <;> omega)
  · rcases w with ⟨e0, a1⟩ | ⟨e0, a1, a2, a3⟩ | ⟨a1, a2, w⟩ <;> rcases w2 with ⟨f0, b1⟩ | ⟨f0, b1, b2, b3⟩ | ⟨b1, b2, w2⟩ <;>
    first
    | exact e0.trans f0.symm
    | (exfalso; omega)
theorem f8_foretell (w : po8_X9_foretell σ τ pl q v (s1, t1)) : Fr (fun k => 18 ≤ k ∧ k ≤ 20) σ s1 := by
  rcases w with ⟨-, r, -⟩ | ⟨-, r, -⟩ | ⟨-, r, -⟩ <;> exact r
theorem f8_weight (w : po8_X9_weight σ τ pl q v (s1, t1)) : Fr (fun k => 18 ≤ k ∧ k ≤ 20) σ s1 := by
  rcases w with ⟨-, r, -⟩ | ⟨-, r, -⟩ | ⟨-, r, -⟩ <;> exact r
theorem f8_slope (w : po8_X9_slope σ τ pl q wa v (s1, t1)) : Fr (fun k => 18 ≤ k ∧ k ≤ 20) σ s1 := by
  rcases w with ⟨-, r, -⟩ | ⟨-, r, -⟩ | ⟨-, r, -⟩ | ⟨-, r, -⟩ <;> exact r
theorem f5_foretell (w : po5_X10_foretell σ τ pl q v (s1, t1)) : MRel (fun _ => False) (fun j => j = 44) σ s1 := by
  rcases w with ⟨-, r, -⟩ | ⟨-, r, -⟩ | ⟨-, r, -⟩ <;> exact r
theorem f5_weight (w : po5_X10_weight σ τ pl q v (s1, t1)) : MRel (fun _ => False) (fun j => j = 44) σ s1 := by
  rcases w with ⟨-, r, -⟩ | ⟨-, r, -⟩ | ⟨-, r, -⟩ <;> exact r
theorem f5_slope (w : po5_X10_slope σ τ pl q wa v (s1, t1)) : MRel (fun _ => False) (fun j => j = 44) σ s1 := by
  rcases w with ⟨-, r, -⟩ | ⟨-, r, -⟩ | ⟨-, r, -⟩ | ⟨-, r, -⟩ <;> exact r
theorem fr_m (r : Fr (fun k => 18 ≤ k ∧ k ≤ 20) σ s1) : (∀ k, 35 ≤ k → k < 80 → s1 k = σ k) ∧ s1 35 29 = σ 35 29 ∧ pX s1 q = pX σ q ∧ pM s1 q = pM σ q := by
  have g : ∀ k, 35 ≤ k → k < 80 → s1 k = σ k := fun k a b => r k (by omega)
  have e29 : s1 35 29 = σ 35 29 := by rw [g 35 (by omega) (by omega)]
  exact ⟨g, e29, pX_ex (g 43 (by omega) (by omega)) e29 (g 52 (by omega) (by omega)) (g 54 (by omega) (by omega)), pM_ex (g 43 (by omega) (by omega)) e29 (g 52 (by omega) (by omega)) (g 53 (by omega) (by omega)) (g 56 (by omega) (by omega))⟩
theorem ag_foretell (h : Inv6 σ) (hq : pl.toInt.toNat = q) (w : po8_X9_foretell σ τ pl q v (s1, t1)) (w2 : po5_X10_foretell s1 t1 pl q v2 (s2, t2)) : v = v2 := by
  obtain ⟨⟨hM, -, hL⟩, hR, -, hT, -, -, hK⟩ := h
  have kq := rel_kq hR hq
  obtain ⟨g, e29, ex, em⟩ := fr_m (q := q) (f8_foretell w)
  have w2' : (v2 = -1 ∧ (¬ (0 ≤ pl.toInt ∧ pl.toInt < 24) ∨ (σ 36 q).toInt = -1)) ∨ (v2 = -2 ∧ (0 ≤ pl.toInt ∧ pl.toInt < 24) ∧ (σ 36 q).toInt ≠ -1 ∧ ¬ (0 ≤ (σ 36 q).toInt ∧ (σ 36 q).toInt ≤ 3)) ∨ (v2 = FT (pX σ q) (σ 37 q).toInt (σ 35 29).toInt (σ 36 q).toInt ∧ (0 ≤ pl.toInt ∧ pl.toInt < 24) ∧ (0 ≤ (σ 36 q).toInt ∧ (σ 36 q).toInt ≤ 3)) := by
    rw [← g 36 (by omega) (by omega), ← g 37 (by omega) (by omega), ← ex, ← e29]
    rcases w2 with ⟨f0, -, b1⟩ | ⟨f0, -, b1, b2, b3⟩ | ⟨f0, -, b1, b2⟩
    · exact Or.inl ⟨f0, b1⟩
    · exact Or.inr (Or.inl ⟨f0, b1, b2, b3⟩)
    · exact Or.inr (Or.inr ⟨f0, b1, b2⟩)
  by_cases hp : 0 ≤ pl.toInt ∧ pl.toInt < 24
  · have kk := kq hp
    have hq24 : q < 24 := by omega
    rcases w with ⟨e0, -, a1⟩ | ⟨e0, -, a1, a2, a3⟩ | ⟨e0, -, a1, a2⟩ <;> rcases w2' with ⟨f0, b1⟩ | ⟨f0, b1, b2, b3⟩ | ⟨f0, b1, b2⟩ <;>
    first
    | exact e0.trans f0.symm
    | (exfalso; omega)
    | (have ck := hK q hq24 b2
       have kr := (hR q hq24).2.2.2 b2
       rw [e0, f0, (xc_px hT ck hM.1 hq24).1, hL.1, ck.1.1, kr.1])
  · rcases w with ⟨e0, -, a1⟩ | ⟨e0, -, a1, a2, a3⟩ | ⟨e0, -, a1, a2⟩ <;> rcases w2' with ⟨f0, b1⟩ | ⟨f0, b1, b2, b3⟩ | ⟨f0, b1, b2⟩ <;>
    first
    | exact e0.trans f0.symm
    | (exfalso; omega)
theorem ag_weight (h : Inv6 σ) (hq : pl.toInt.toNat = q) (w : po8_X9_weight σ τ pl q v (s1, t1)) (w2 : po5_X10_weight s1 t1 pl q v2 (s2, t2)) : v = v2 := by
  obtain ⟨⟨hM, -, hL⟩, hR, -, hT, -, -, hK⟩ := h
  have kq := rel_kq hR hq
  obtain ⟨g, e29, ex, em⟩ := fr_m (q := q) (f8_weight w)
  have w2' : (v2 = -1 ∧ (¬ (0 ≤ pl.toInt ∧ pl.toInt < 24) ∨ (σ 36 q).toInt = -1)) ∨ (v2 = -2 ∧ (0 ≤ pl.toInt ∧ pl.toInt < 24) ∧ (σ 36 q).toInt ≠ -1 ∧ ¬ (0 ≤ (σ 36 q).toInt ∧ (σ 36 q).toInt ≤ 3)) ∨ (v2 = FW6 (σ 41 q).toInt (FT (pX σ q) (σ 37 q).toInt (σ 35 29).toInt (σ 36 q).toInt) (pM σ q) (σ 38 q).toInt (σ 35 29).toInt ∧ (0 ≤ pl.toInt ∧ pl.toInt < 24) ∧ (0 ≤ (σ 36 q).toInt ∧ (σ 36 q).toInt ≤ 3)) := by
    rw [← g 36 (by omega) (by omega), ← g 37 (by omega) (by omega), ← g 38 (by omega) (by omega), ← g 41 (by omega) (by omega), ← ex, ← em, ← e29]
    rcases w2 with ⟨f0, -, b1⟩ | ⟨f0, -, b1, b2, b3⟩ | ⟨f0, -, b1, b2⟩
    · exact Or.inl ⟨f0, b1⟩
    · exact Or.inr (Or.inl ⟨f0, b1, b2, b3⟩)
    · exact Or.inr (Or.inr ⟨f0, b1, b2⟩)
  by_cases hp : 0 ≤ pl.toInt ∧ pl.toInt < 24
  · have kk := kq hp
    have hq24 : q < 24 := by omega
    rcases w with ⟨e0, -, a1⟩ | ⟨e0, -, a1, a2, a3⟩ | ⟨e0, -, a1, a2⟩ <;> rcases w2' with ⟨f0, b1⟩ | ⟨f0, b1, b2, b3⟩ | ⟨f0, b1, b2⟩ <;>
    first
    | exact e0.trans f0.symm
    | (exfalso; omega)
    | (have ck := hK q hq24 b2
       have kr := (hR q hq24).2.2.2 b2
       rw [e0, f0, (xc_px hT ck hM.1 hq24).1, (xc_px hT ck hM.1 hq24).2, hL.1, ck.1.1, ck.2.1.1, ck.2.2.2.1, kr.1])
  · rcases w with ⟨e0, -, a1⟩ | ⟨e0, -, a1, a2, a3⟩ | ⟨e0, -, a1, a2⟩ <;> rcases w2' with ⟨f0, b1⟩ | ⟨f0, b1, b2, b3⟩ | ⟨f0, b1, b2⟩ <;>
    first
    | exact e0.trans f0.symm
    | (exfalso; omega)
theorem ag_slope (h : Inv6 σ) (hq : pl.toInt.toNat = q) (w : po8_X9_slope σ τ pl q wa v (s1, t1)) (w2 : po5_X10_slope s1 t1 pl q wa v2 (s2, t2)) : v = v2 := by
  obtain ⟨⟨hM, -, hL⟩, hR, -, hT, -, -, hK⟩ := h
  have kq := rel_kq hR hq
  obtain ⟨g, e29, ex, em⟩ := fr_m (q := q) (f8_slope w)
  have w2' : (v2 = -1 ∧ (¬ (0 ≤ pl.toInt ∧ pl.toInt < 24) ∨ (σ 36 q).toInt = -1)) ∨ (v2 = -2 ∧ (0 ≤ pl.toInt ∧ pl.toInt < 24) ∧ (σ 36 q).toInt ≠ -1 ∧ ¬ (0 ≤ (σ 36 q).toInt ∧ (σ 36 q).toInt ≤ 3)) ∨ (v2 = -1 ∧ (0 ≤ pl.toInt ∧ pl.toInt < 24) ∧ (0 ≤ (σ 36 q).toInt ∧ (σ 36 q).toInt ≤ 3) ∧ (wa.toInt < 0 ∨ 1 < wa.toInt)) ∨
      (v2 = SLP (pX σ q) (σ 37 q).toInt (σ 35 29).toInt (σ 36 q).toInt wa.toInt ∧ (0 ≤ pl.toInt ∧ pl.toInt < 24) ∧ (0 ≤ (σ 36 q).toInt ∧ (σ 36 q).toInt ≤ 3) ∧ (0 ≤ wa.toInt ∧ wa.toInt ≤ 1)) := by
    rw [← g 36 (by omega) (by omega), ← g 37 (by omega) (by omega), ← ex, ← e29]
    rcases w2 with ⟨f0, -, b1⟩ | ⟨f0, -, b1, b2, b3⟩ | ⟨f0, -, b1, b2, b3⟩ | ⟨f0, -, b1, b2, b3⟩
    · exact Or.inl ⟨f0, b1⟩
    · exact Or.inr (Or.inl ⟨f0, b1, b2, b3⟩)
    · exact Or.inr (Or.inr (Or.inl ⟨f0, b1, b2, b3⟩))
    · exact Or.inr (Or.inr (Or.inr ⟨f0, b1, b2, b3⟩))
  by_cases hp : 0 ≤ pl.toInt ∧ pl.toInt < 24
  · have kk := kq hp
    have hq24 : q < 24 := by omega
    rcases w with ⟨e0, -, a1⟩ | ⟨e0, -, a1, a2, a3⟩ | ⟨e0, -, a1, a2, a3⟩ | ⟨e0, -, a1, a2, a3⟩ <;> rcases w2' with ⟨f0, b1⟩ | ⟨f0, b1, b2, b3⟩ | ⟨f0, b1, b2, b3⟩ | ⟨f0, b1, b2, b3⟩ <;>
    first
    | exact e0.trans f0.symm
    | (exfalso; omega)
    | (have ck := hK q hq24 b2
       have kr := (hR q hq24).2.2.2 b2
       rw [e0, f0, (xc_px hT ck hM.1 hq24).1, hL.1, ck.1.1, kr.1])
  · rcases w with ⟨e0, -, a1⟩ | ⟨e0, -, a1, a2, a3⟩ | ⟨e0, -, a1, a2, a3⟩ | ⟨e0, -, a1, a2, a3⟩ <;> rcases w2' with ⟨f0, b1⟩ | ⟨f0, b1, b2, b3⟩ | ⟨f0, b1, b2, b3⟩ | ⟨f0, b1, b2, b3⟩ <;>
    first
    | exact e0.trans f0.symm
    | (exfalso; omega)
end AG6
