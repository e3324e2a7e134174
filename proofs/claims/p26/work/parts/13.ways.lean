abbrev po_X6_add (σ : SI) (τ : SL) (hr : Int32) (pl : Int32) (xa : Int32) : SI × SL → Prop := fun u => ((CF σ u.1))
set_option maxRecDepth 100000 in
set_option maxHeartbeats 4000000 in
theorem c_X6_add (l : Launch) {G : Gx} {A : Nat → Prop} (hG : GOk G A) (σ : SI) (τ : SL) (hr : Int32) (pl : Int32) (xa : Int32) : MV l G A 0 yX6_add cX6_add 4 none [.ref (G.2.1 8), .int hr, .int pl, .int xa] (σ, τ) (po_X6_add σ τ hr pl xa) := by
  refine met_of (own := RX6) (by decide +kernel) rfl [(0, .ref (G.2.1 8)), (1, .int hr), (2, .int pl), (3, .int xa)] rfl (Nat.le_of_ble_eq_true rfl) ?_
  intro p e s m args below meth c ls hC hK hR hl
  have hS : va_S A s.heap s.heap [] := va_S.rf
  refine lv_aload_n hC.x hC.b dX6_add_0 rfl (lv_at hl 0 rfl) ?_
  refine rget hC hK hR (ct_steps G _ _) rfl uin_X6 3 (by decide) TF_X6_21 rfl dX6_add_1 ?_
  refine bz_lt (tgt := 16) (a := (σ 8 3).toInt) (b := 0) hC.x hC.b rfl rfl dX6_add_4 (by decide) (fun c_1 => ?_) (fun c_1 => ?_)
  · skip
    exact retv hC hK hR hS (by exact CF.rf) dX6_add_16
  · skip
    refine lv_aload_n hC.x hC.b dX6_add_7 rfl (lv_at hl 0 rfl) ?_
    refine rget hC hK hR (ct_steps G _ _) rfl uin_X6 3 (by decide) TF_X6_21 rfl dX6_add_8 ?_
    refine lv_bipush (v := 100) hC.x hC.b dX6_add_11 (by decide) ?_
    refine bi_lt (tgt := 17) (a := (σ 8 3).toInt) (b := 100) hC.x hC.b rfl rfl dX6_add_13 (by decide) (fun c_2 => ?_) (fun c_2 => ?_)
    · skip
      refine lv_aload_n hC.x hC.b dX6_add_17 rfl (lv_at hl 0 rfl) ?_
      refine rget hC hK hR (ct_steps G _ _) rfl uin_X6 0 (by decide) TF_X6_9 rfl dX6_add_18 ?_
      refine lv_aload_n hC.x hC.b dX6_add_21 rfl (lv_at hl 0 rfl) ?_
      refine rget hC hK hR (ct_steps G _ _) rfl uin_X6 3 (by decide) TF_X6_21 rfl dX6_add_22 ?_
      refine lv_iload_n hC.x hC.b dX6_add_25 rfl (lv_at hl 1 rfl) ?_
      refine ast hC hK hG hR hS (fun _ => ct_hours G _ _) rfl (by omega) (by omega) rfl dX6_add_26 (fun s_3 es_4 H locs hR hS => ?_)
      refine lv_aload_n hC.x hC.b dX6_add_27 rfl (lv_at hl 0 rfl) ?_
      refine rget hC hK hR (ct_steps G _ _) rfl uin_X6 1 (by decide) TF_X6_15 rfl dX6_add_28 ?_
      refine lv_aload_n hC.x hC.b dX6_add_31 rfl (lv_at hl 0 rfl) ?_
      refine rget hC hK hR (ct_steps G _ _) rfl uin_X6 3 (by decide) TF_X6_21 rfl dX6_add_32 ?_
      have rd_5 : (s_3 8 3).toInt = (σ 8 3).toInt := congrArg Int32.toInt (show s_3 8 3 = σ 8 3 from (by rw [es_4]; exact up2_o (by omega)))
      refine lv_iload_n hC.x hC.b dX6_add_35 rfl (lv_at hl 2 rfl) ?_
      refine ast hC hK hG hR hS (fun _ => ct_places G _ _) rfl (by omega) (by omega) rfl dX6_add_36 (fun s_6 es_7 H locs hR hS => ?_)
      refine lv_aload_n hC.x hC.b dX6_add_37 rfl (lv_at hl 0 rfl) ?_
      refine rget hC hK hR (ct_steps G _ _) rfl uin_X6 2 (by decide) TF_X6_18 rfl dX6_add_38 ?_
      refine lv_aload_n hC.x hC.b dX6_add_41 rfl (lv_at hl 0 rfl) ?_
      refine rget hC hK hR (ct_steps G _ _) rfl uin_X6 3 (by decide) TF_X6_21 rfl dX6_add_42 ?_
      have rd_8 : (s_6 8 3).toInt = (σ 8 3).toInt := congrArg Int32.toInt (Eq.trans (show s_6 8 3 = s_3 8 3 from (by rw [es_7]; exact up2_o (by omega))) (show s_3 8 3 = σ 8 3 from (by rw [es_4]; exact up2_o (by omega))))
      refine lv_iload_n hC.x hC.b dX6_add_45 rfl (lv_at hl 3 rfl) ?_
      refine ast hC hK hG hR hS (fun _ => ct_misses G _ _) rfl (by omega) (by omega) rfl dX6_add_46 (fun s_9 es_10 H locs hR hS => ?_)
      refine lv_aload_n hC.x hC.b dX6_add_47 rfl (lv_at hl 0 rfl) ?_
      refine lv_dup hC.x hC.b dX6_add_48 rfl ?_
      refine rget hC hK hR (ct_steps G _ _) rfl uin_X6 3 (by decide) TF_X6_21 rfl dX6_add_49 ?_
      have rd_11 : (s_9 8 3).toInt = (σ 8 3).toInt := congrArg Int32.toInt (Eq.trans (show s_9 8 3 = s_6 8 3 from (by rw [es_10]; exact up2_o (by omega))) (Eq.trans (show s_6 8 3 = s_3 8 3 from (by rw [es_7]; exact up2_o (by omega))) (show s_3 8 3 = σ 8 3 from (by rw [es_4]; exact up2_o (by omega)))))
      refine lv_iconst (v := 1) hC.x hC.b dX6_add_52 (by decide) ?_
      refine lv_iadd hC.x hC.b dX6_add_53 ?_
      refine rputi hC hK hG hR hS (ct_steps G _ _) rfl uin_X6 tyX6 tyX6_ok nmX6 3 (by decide) TF_X6_21 rfl (Or.inl rfl) (Nat.le_of_ble_eq_true rfl) rfl (ct_steps G _ _) dX6_add_54 (fun s_13 es_12 H locs hR hS => ?_)
      exact retv hC hK hR hS (by exact (by rw [es_12]; exact CF.up ((by rw [es_10]; exact CF.up ((by rw [es_7]; exact CF.up ((by rw [es_4]; exact CF.up (CF.rf) (by omega))) (by omega))) (by omega))) (by omega))) dX6_add_57
    · skip
      exact retv hC hK hR hS (by exact CF.rf) dX6_add_16

abbrev po_X6_valueOf (σ : SI) (τ : SL) (ia : Int32) (wa : Int32) : Int32 → SI × SL → Prop := fun v u => u = (σ, τ) ∧ (True)
set_option maxRecDepth 100000 in
set_option maxHeartbeats 4000000 in
theorem c_X6_valueOf (l : Launch) {G : Gx} {A : Nat → Prop} (hG : GOk G A) (σ : SI) (τ : SL) (ia : Int32) (wa : Int32) : MI l G A 0 yX6_valueOf cX6_valueOf 3 (some .int) [.ref (G.2.1 8), .int ia, .int wa] (σ, τ) (po_X6_valueOf σ τ ia wa) := by
  refine met_of (own := RX6) (by decide +kernel) rfl [(0, .ref (G.2.1 8)), (1, .int ia), (2, .int wa)] rfl (Nat.le_of_ble_eq_true rfl) ?_
  intro p e s m args below meth c ls hC hK hR hl
  have hS : va_S A s.heap s.heap [] := va_S.rf
  refine lv_iload_n hC.x hC.b dX6_valueOf_0 rfl (lv_at hl 1 rfl) ?_
  refine bz_lt (tgt := 18) (a := ia.toInt) (b := 0) hC.x hC.b rfl rfl dX6_valueOf_1 (by decide) (fun c_1 => ?_) (fun c_1 => ?_)
  · skip
    refine lv_iconst (v := (-1)) hC.x hC.b dX6_valueOf_18 (by decide) ?_
    exact reti hC hK hR hS ⟨rfl, (trivial)⟩ dX6_valueOf_19
  · skip
    refine lv_iload_n hC.x hC.b dX6_valueOf_4 rfl (lv_at hl 1 rfl) ?_
    refine lv_aload_n hC.x hC.b dX6_valueOf_5 rfl (lv_at hl 0 rfl) ?_
    refine rget hC hK hR (ct_steps G _ _) rfl uin_X6 3 (by decide) TF_X6_21 rfl dX6_valueOf_6 ?_
    refine bi_ge (tgt := 18) (a := ia.toInt) (b := (σ 8 3).toInt) hC.x hC.b rfl rfl dX6_valueOf_9 (by decide) (fun c_2 => ?_) (fun c_2 => ?_)
    · skip
      refine lv_iconst (v := (-1)) hC.x hC.b dX6_valueOf_18 (by decide) ?_
      exact reti hC hK hR hS ⟨rfl, (trivial)⟩ dX6_valueOf_19
    · skip
      refine lv_iload_n hC.x hC.b dX6_valueOf_12 rfl (lv_at hl 1 rfl) ?_
      refine lv_bipush (v := 100) hC.x hC.b dX6_valueOf_13 (by decide) ?_
      refine bi_lt (tgt := 20) (a := ia.toInt) (b := 100) hC.x hC.b rfl rfl dX6_valueOf_15 (by decide) (fun c_3 => ?_) (fun c_3 => ?_)
      · skip
        refine lv_iload_n hC.x hC.b dX6_valueOf_20 rfl (lv_at hl 2 rfl) ?_
        have sw_4 : wa.toInt = 0 ∨ wa.toInt = 1 ∨ wa.toInt = 2 ∨ (wa.toInt < 0 ∨ 2 < wa.toInt) := by omega
        rcases sw_4 with sw_4 | sw_4 | sw_4 | sw_4
        · skip
          refine lv_tableIn (tgt := 48) hC.x hC.b dX6_valueOf_21 (by omega) (by omega) (by rw [sw_4]; rfl) (by decide) ?_
          refine lv_aload_n hC.x hC.b dX6_valueOf_48 rfl (lv_at hl 0 rfl) ?_
          refine rget hC hK hR (ct_steps G _ _) rfl uin_X6 0 (by decide) TF_X6_9 rfl dX6_valueOf_49 ?_
          refine lv_iload_n hC.x hC.b dX6_valueOf_52 rfl (lv_at hl 1 rfl) ?_
          refine ald hC hK hR (ct_hours G _ _) rfl (by omega) (by omega) rfl dX6_valueOf_53 ?_
          exact reti hC hK hR hS ⟨rfl, (trivial)⟩ dX6_valueOf_54
        · skip
          refine lv_tableIn (tgt := 55) hC.x hC.b dX6_valueOf_21 (by omega) (by omega) (by rw [sw_4]; rfl) (by decide) ?_
          refine lv_aload_n hC.x hC.b dX6_valueOf_55 rfl (lv_at hl 0 rfl) ?_
          refine rget hC hK hR (ct_steps G _ _) rfl uin_X6 1 (by decide) TF_X6_15 rfl dX6_valueOf_56 ?_
          refine lv_iload_n hC.x hC.b dX6_valueOf_59 rfl (lv_at hl 1 rfl) ?_
          refine ald hC hK hR (ct_places G _ _) rfl (by omega) (by omega) rfl dX6_valueOf_60 ?_
          exact reti hC hK hR hS ⟨rfl, (trivial)⟩ dX6_valueOf_61
        · skip
          refine lv_tableIn (tgt := 62) hC.x hC.b dX6_valueOf_21 (by omega) (by omega) (by rw [sw_4]; rfl) (by decide) ?_
          refine lv_aload_n hC.x hC.b dX6_valueOf_62 rfl (lv_at hl 0 rfl) ?_
          refine rget hC hK hR (ct_steps G _ _) rfl uin_X6 2 (by decide) TF_X6_18 rfl dX6_valueOf_63 ?_
          refine lv_iload_n hC.x hC.b dX6_valueOf_66 rfl (lv_at hl 1 rfl) ?_
          refine ald hC hK hR (ct_misses G _ _) rfl (by omega) (by omega) rfl dX6_valueOf_67 ?_
          exact reti hC hK hR hS ⟨rfl, (trivial)⟩ dX6_valueOf_68
        · skip
          refine lv_tableOut (tgt := 69) hC.x hC.b dX6_valueOf_21 (by omega) (by decide) ?_
          refine lv_iconst (v := (-1)) hC.x hC.b dX6_valueOf_69 (by decide) ?_
          exact reti hC hK hR hS ⟨rfl, (trivial)⟩ dX6_valueOf_70
      · skip
        refine lv_iconst (v := (-1)) hC.x hC.b dX6_valueOf_18 (by decide) ?_
        exact reti hC hK hR hS ⟨rfl, (trivial)⟩ dX6_valueOf_19

abbrev po_X7_tell (σ : SI) (τ : SL) (wa : Int32) (hr : Int32) (pl : Int32) (xa : Int32) : SI × SL → Prop := fun u => ((CF σ u.1))
set_option maxRecDepth 100000 in
set_option maxHeartbeats 4000000 in
theorem c_X7_tell (l : Launch) {G : Gx} {A : Nat → Prop} (hG : GOk G A) (σ : SI) (τ : SL) (wa : Int32) (hr : Int32) (pl : Int32) (xa : Int32) : MV l G A 0 yX7_tell cX7_tell 5 none [.ref (G.2.1 5), .int wa, .int hr, .int pl, .int xa] (σ, τ) (po_X7_tell σ τ wa hr pl xa) := by
  refine met_of (own := RX7) (by decide +kernel) rfl [(0, .ref (G.2.1 5)), (1, .int wa), (2, .int hr), (3, .int pl), (4, .int xa)] rfl (Nat.le_of_ble_eq_true rfl) ?_
  intro p e s m args below meth c ls hC hK hR hl
  have hS : va_S A s.heap s.heap [] := va_S.rf
  refine lv_iload_n hC.x hC.b dX7_tell_0 rfl (lv_at hl 1 rfl) ?_
  refine bz_lt (tgt := 45) (a := wa.toInt) (b := 0) hC.x hC.b rfl rfl dX7_tell_1 (by decide) (fun c_1 => ?_) (fun c_1 => ?_)
  · skip
    exact retv hC hK hR hS (by exact CF.rf) dX7_tell_45
  · skip
    refine lv_iload_n hC.x hC.b dX7_tell_4 rfl (lv_at hl 1 rfl) ?_
    refine lv_iconst (v := 5) hC.x hC.b dX7_tell_5 (by decide) ?_
    refine bi_ge (tgt := 45) (a := wa.toInt) (b := 5) hC.x hC.b rfl rfl dX7_tell_6 (by decide) (fun c_2 => ?_) (fun c_2 => ?_)
    · skip
      exact retv hC hK hR hS (by exact CF.rf) dX7_tell_45
    · skip
      refine lv_iload_n hC.x hC.b dX7_tell_9 rfl (lv_at hl 2 rfl) ?_
      refine bz_lt (tgt := 45) (a := hr.toInt) (b := 0) hC.x hC.b rfl rfl dX7_tell_10 (by decide) (fun c_3 => ?_) (fun c_3 => ?_)
      · skip
        exact retv hC hK hR hS (by exact CF.rf) dX7_tell_45
      · skip
        refine lv_iload_n hC.x hC.b dX7_tell_13 rfl (lv_at hl 2 rfl) ?_
        refine lv_sipush (v := 200) hC.x hC.b dX7_tell_14 (by decide) ?_
        refine bi_ge (tgt := 45) (a := hr.toInt) (b := 200) hC.x hC.b rfl rfl dX7_tell_17 (by decide) (fun c_4 => ?_) (fun c_4 => ?_)
        · skip
          exact retv hC hK hR hS (by exact CF.rf) dX7_tell_45
        · skip
          refine lv_iload_n hC.x hC.b dX7_tell_20 rfl (lv_at hl 3 rfl) ?_
          refine bz_lt (tgt := 45) (a := pl.toInt) (b := 0) hC.x hC.b rfl rfl dX7_tell_21 (by decide) (fun c_5 => ?_) (fun c_5 => ?_)
          · skip
            exact retv hC hK hR hS (by exact CF.rf) dX7_tell_45
          · skip
            refine lv_iload_n hC.x hC.b dX7_tell_24 rfl (lv_at hl 3 rfl) ?_
            refine lv_bipush (v := 24) hC.x hC.b dX7_tell_25 (by decide) ?_
            refine bi_ge (tgt := 45) (a := pl.toInt) (b := 24) hC.x hC.b rfl rfl dX7_tell_27 (by decide) (fun c_6 => ?_) (fun c_6 => ?_)
            · skip
              exact retv hC hK hR hS (by exact CF.rf) dX7_tell_45
            · skip
              refine lv_aload_n hC.x hC.b dX7_tell_30 rfl (lv_at hl 0 rfl) ?_
              refine rget hC hK hR (ct_told G _ _) rfl uin_X7 0 (by decide) TF_X7_11 rfl dX7_tell_31 ?_
              refine lv_iload_n hC.x hC.b dX7_tell_34 rfl (lv_at hl 1 rfl) ?_
              have hq_7 : wa.toInt.toNat < 5 := by omega
              refine aald (t0 := 4) hC hK hR (by decide) rfl (ct_clockRows G _ _) rfl (by omega) (by omega) rfl dX7_tell_35 ?_
              refine lv_iload_n hC.x hC.b dX7_tell_36 rfl (lv_at hl 2 rfl) ?_
              refine lv_bipush (v := 24) hC.x hC.b dX7_tell_37 (by decide) ?_
              refine lv_imul hC.x hC.b dX7_tell_39 ?_
              have pr_8 : (hr * (24 : Int32)).toInt = (hr.toInt * 24) := mulI rfl rfl (by omega) (by omega)
              refine lv_iload_n hC.x hC.b dX7_tell_40 rfl (lv_at hl 3 rfl) ?_
              refine lv_iadd hC.x hC.b dX7_tell_41 ?_
              have pr_9 : ((hr * (24 : Int32)) + pl).toInt = ((hr.toInt * 24) + pl.toInt) := addI pr_8 rfl (by omega) (by omega)
              refine lv_iload hC.x hC.b dX7_tell_42 (lv_at hl 4 rfl) ?_
              refine ast hC hK hG hR hS (fun _ => ct_cr hq_7 G _ _) pr_9 (by omega) (by omega) rfl dX7_tell_44 (fun s_10 es_11 H locs hR hS => ?_)
              exact retv hC hK hR hS (by exact (by rw [es_11]; exact CF.up (CF.rf) (by omega))) dX7_tell_45

abbrev po_X7_tellPaper (σ : SI) (τ : SL) (wa : Int32) (hr : Int32) (xa : Int32) : SI × SL → Prop := fun u => ((CF σ u.1))
set_option maxRecDepth 100000 in
set_option maxHeartbeats 4000000 in
theorem c_X7_tellPaper (l : Launch) {G : Gx} {A : Nat → Prop} (hG : GOk G A) (σ : SI) (τ : SL) (wa : Int32) (hr : Int32) (xa : Int32) : MV l G A 0 yX7_tellPaper cX7_tellPaper 4 none [.ref (G.2.1 5), .int wa, .int hr, .int xa] (σ, τ) (po_X7_tellPaper σ τ wa hr xa) := by
  refine met_of (own := RX7) (by decide +kernel) rfl [(0, .ref (G.2.1 5)), (1, .int wa), (2, .int hr), (3, .int xa)] rfl (Nat.le_of_ble_eq_true rfl) ?_
  intro p e s m args below meth c ls hC hK hR hl
  have hS : va_S A s.heap s.heap [] := va_S.rf
  refine lv_iload_n hC.x hC.b dX7_tellPaper_0 rfl (lv_at hl 1 rfl) ?_
  refine bz_lt (tgt := 30) (a := wa.toInt) (b := 0) hC.x hC.b rfl rfl dX7_tellPaper_1 (by decide) (fun c_1 => ?_) (fun c_1 => ?_)
  · skip
    exact retv hC hK hR hS (by exact CF.rf) dX7_tellPaper_30
  · skip
    refine lv_iload_n hC.x hC.b dX7_tellPaper_4 rfl (lv_at hl 1 rfl) ?_
    refine lv_bipush (v := 6) hC.x hC.b dX7_tellPaper_5 (by decide) ?_
    refine bi_ge (tgt := 30) (a := wa.toInt) (b := 6) hC.x hC.b rfl rfl dX7_tellPaper_7 (by decide) (fun c_2 => ?_) (fun c_2 => ?_)
    · skip
      exact retv hC hK hR hS (by exact CF.rf) dX7_tellPaper_30
    · skip
      refine lv_iload_n hC.x hC.b dX7_tellPaper_10 rfl (lv_at hl 2 rfl) ?_
      refine bz_lt (tgt := 30) (a := hr.toInt) (b := 0) hC.x hC.b rfl rfl dX7_tellPaper_11 (by decide) (fun c_3 => ?_) (fun c_3 => ?_)
      · skip
        exact retv hC hK hR hS (by exact CF.rf) dX7_tellPaper_30
      · skip
        refine lv_iload_n hC.x hC.b dX7_tellPaper_14 rfl (lv_at hl 2 rfl) ?_
        refine lv_sipush (v := 200) hC.x hC.b dX7_tellPaper_15 (by decide) ?_
        refine bi_ge (tgt := 30) (a := hr.toInt) (b := 200) hC.x hC.b rfl rfl dX7_tellPaper_18 (by decide) (fun c_4 => ?_) (fun c_4 => ?_)
        · skip
          exact retv hC hK hR hS (by exact CF.rf) dX7_tellPaper_30
        · skip
          refine lv_aload_n hC.x hC.b dX7_tellPaper_21 rfl (lv_at hl 0 rfl) ?_
          refine rget hC hK hR (ct_told G _ _) rfl uin_X7 1 (by decide) TF_X7_16 rfl dX7_tellPaper_22 ?_
          refine lv_iload_n hC.x hC.b dX7_tellPaper_25 rfl (lv_at hl 1 rfl) ?_
          have hq_5 : wa.toInt.toNat < 6 := by omega
          refine aald (t0 := 4) hC hK hR (by decide) rfl (ct_paperRows G _ _) rfl (by omega) (by omega) rfl dX7_tellPaper_26 ?_
          refine lv_iload_n hC.x hC.b dX7_tellPaper_27 rfl (lv_at hl 2 rfl) ?_
          refine lv_iload_n hC.x hC.b dX7_tellPaper_28 rfl (lv_at hl 3 rfl) ?_
          refine ast hC hK hG hR hS (fun _ => ct_pr hq_5 G _ _) rfl (by omega) (by omega) rfl dX7_tellPaper_29 (fun s_6 es_7 H locs hR hS => ?_)
          exact retv hC hK hR hS (by exact (by rw [es_7]; exact CF.up (CF.rf) (by omega))) dX7_tellPaper_30

abbrev po_X7_ofClock (σ : SI) (τ : SL) (wa : Int32) (hr : Int32) (pl : Int32) : Int32 → SI × SL → Prop := fun v u => u = (σ, τ) ∧ (True)
set_option maxRecDepth 100000 in
set_option maxHeartbeats 4000000 in
theorem c_X7_ofClock (l : Launch) {G : Gx} {A : Nat → Prop} (hG : GOk G A) (σ : SI) (τ : SL) (wa : Int32) (hr : Int32) (pl : Int32) : MI l G A 0 yX7_ofClock cX7_ofClock 4 (some .int) [.ref (G.2.1 5), .int wa, .int hr, .int pl] (σ, τ) (po_X7_ofClock σ τ wa hr pl) := by
  refine met_of (own := RX7) (by decide +kernel) rfl [(0, .ref (G.2.1 5)), (1, .int wa), (2, .int hr), (3, .int pl)] rfl (Nat.le_of_ble_eq_true rfl) ?_
  intro p e s m args below meth c ls hC hK hR hl
  have hS : va_S A s.heap s.heap [] := va_S.rf
  refine lv_iload_n hC.x hC.b dX7_ofClock_0 rfl (lv_at hl 1 rfl) ?_
  refine bz_lt (tgt := 30) (a := wa.toInt) (b := 0) hC.x hC.b rfl rfl dX7_ofClock_1 (by decide) (fun c_1 => ?_) (fun c_1 => ?_)
  · skip
    refine lv_ldc hC.x hC.b hC.ow (hC.ts _ TK_X7_19) dX7_ofClock_30 ?_
    exact reti hC hK hR hS ⟨rfl, (trivial)⟩ dX7_ofClock_32
  · skip
    refine lv_iload_n hC.x hC.b dX7_ofClock_4 rfl (lv_at hl 1 rfl) ?_
    refine lv_iconst (v := 5) hC.x hC.b dX7_ofClock_5 (by decide) ?_
    refine bi_ge (tgt := 30) (a := wa.toInt) (b := 5) hC.x hC.b rfl rfl dX7_ofClock_6 (by decide) (fun c_2 => ?_) (fun c_2 => ?_)
    · skip
      refine lv_ldc hC.x hC.b hC.ow (hC.ts _ TK_X7_19) dX7_ofClock_30 ?_
      exact reti hC hK hR hS ⟨rfl, (trivial)⟩ dX7_ofClock_32
    · skip
      refine lv_iload_n hC.x hC.b dX7_ofClock_9 rfl (lv_at hl 2 rfl) ?_
      refine bz_lt (tgt := 30) (a := hr.toInt) (b := 0) hC.x hC.b rfl rfl dX7_ofClock_10 (by decide) (fun c_3 => ?_) (fun c_3 => ?_)
      · skip
        refine lv_ldc hC.x hC.b hC.ow (hC.ts _ TK_X7_19) dX7_ofClock_30 ?_
        exact reti hC hK hR hS ⟨rfl, (trivial)⟩ dX7_ofClock_32
      · skip
        refine lv_iload_n hC.x hC.b dX7_ofClock_13 rfl (lv_at hl 2 rfl) ?_
        refine lv_sipush (v := 200) hC.x hC.b dX7_ofClock_14 (by decide) ?_
        refine bi_ge (tgt := 30) (a := hr.toInt) (b := 200) hC.x hC.b rfl rfl dX7_ofClock_17 (by decide) (fun c_4 => ?_) (fun c_4 => ?_)
        · skip
          refine lv_ldc hC.x hC.b hC.ow (hC.ts _ TK_X7_19) dX7_ofClock_30 ?_
          exact reti hC hK hR hS ⟨rfl, (trivial)⟩ dX7_ofClock_32
        · skip
          refine lv_iload_n hC.x hC.b dX7_ofClock_20 rfl (lv_at hl 3 rfl) ?_
          refine bz_lt (tgt := 30) (a := pl.toInt) (b := 0) hC.x hC.b rfl rfl dX7_ofClock_21 (by decide) (fun c_5 => ?_) (fun c_5 => ?_)
          · skip
            refine lv_ldc hC.x hC.b hC.ow (hC.ts _ TK_X7_19) dX7_ofClock_30 ?_
            exact reti hC hK hR hS ⟨rfl, (trivial)⟩ dX7_ofClock_32
          · skip
            refine lv_iload_n hC.x hC.b dX7_ofClock_24 rfl (lv_at hl 3 rfl) ?_
            refine lv_bipush (v := 24) hC.x hC.b dX7_ofClock_25 (by decide) ?_
            refine bi_lt (tgt := 33) (a := pl.toInt) (b := 24) hC.x hC.b rfl rfl dX7_ofClock_27 (by decide) (fun c_6 => ?_) (fun c_6 => ?_)
            · skip
              refine lv_aload_n hC.x hC.b dX7_ofClock_33 rfl (lv_at hl 0 rfl) ?_
              refine rget hC hK hR (ct_told G _ _) rfl uin_X7 0 (by decide) TF_X7_11 rfl dX7_ofClock_34 ?_
              refine lv_iload_n hC.x hC.b dX7_ofClock_37 rfl (lv_at hl 1 rfl) ?_
              have hq_7 : wa.toInt.toNat < 5 := by omega
              refine aald (t0 := 4) hC hK hR (by decide) rfl (ct_clockRows G _ _) rfl (by omega) (by omega) rfl dX7_ofClock_38 ?_
              refine lv_iload_n hC.x hC.b dX7_ofClock_39 rfl (lv_at hl 2 rfl) ?_
              refine lv_bipush (v := 24) hC.x hC.b dX7_ofClock_40 (by decide) ?_
              refine lv_imul hC.x hC.b dX7_ofClock_42 ?_
              have pr_8 : (hr * (24 : Int32)).toInt = (hr.toInt * 24) := mulI rfl rfl (by omega) (by omega)
              refine lv_iload_n hC.x hC.b dX7_ofClock_43 rfl (lv_at hl 3 rfl) ?_
              refine lv_iadd hC.x hC.b dX7_ofClock_44 ?_
              have pr_9 : ((hr * (24 : Int32)) + pl).toInt = ((hr.toInt * 24) + pl.toInt) := addI pr_8 rfl (by omega) (by omega)
              refine ald hC hK hR (ct_cr hq_7 G _ _) pr_9 (by omega) (by omega) rfl dX7_ofClock_45 ?_
              exact reti hC hK hR hS ⟨rfl, (trivial)⟩ dX7_ofClock_46
            · skip
              refine lv_ldc hC.x hC.b hC.ow (hC.ts _ TK_X7_19) dX7_ofClock_30 ?_
              exact reti hC hK hR hS ⟨rfl, (trivial)⟩ dX7_ofClock_32

abbrev po_X7_ofPaper (σ : SI) (τ : SL) (wa : Int32) (hr : Int32) : Int32 → SI × SL → Prop := fun v u => u = (σ, τ) ∧ (True)
set_option maxRecDepth 100000 in
set_option maxHeartbeats 4000000 in
theorem c_X7_ofPaper (l : Launch) {G : Gx} {A : Nat → Prop} (hG : GOk G A) (σ : SI) (τ : SL) (wa : Int32) (hr : Int32) : MI l G A 0 yX7_ofPaper cX7_ofPaper 3 (some .int) [.ref (G.2.1 5), .int wa, .int hr] (σ, τ) (po_X7_ofPaper σ τ wa hr) := by
  refine met_of (own := RX7) (by decide +kernel) rfl [(0, .ref (G.2.1 5)), (1, .int wa), (2, .int hr)] rfl (Nat.le_of_ble_eq_true rfl) ?_
  intro p e s m args below meth c ls hC hK hR hl
  have hS : va_S A s.heap s.heap [] := va_S.rf
  refine lv_iload_n hC.x hC.b dX7_ofPaper_0 rfl (lv_at hl 1 rfl) ?_
  refine bz_lt (tgt := 21) (a := wa.toInt) (b := 0) hC.x hC.b rfl rfl dX7_ofPaper_1 (by decide) (fun c_1 => ?_) (fun c_1 => ?_)
  · skip
    refine lv_iconst (v := (-1)) hC.x hC.b dX7_ofPaper_21 (by decide) ?_
    exact reti hC hK hR hS ⟨rfl, (trivial)⟩ dX7_ofPaper_22
  · skip
    refine lv_iload_n hC.x hC.b dX7_ofPaper_4 rfl (lv_at hl 1 rfl) ?_
    refine lv_bipush (v := 6) hC.x hC.b dX7_ofPaper_5 (by decide) ?_
    refine bi_ge (tgt := 21) (a := wa.toInt) (b := 6) hC.x hC.b rfl rfl dX7_ofPaper_7 (by decide) (fun c_2 => ?_) (fun c_2 => ?_)
    · skip
      refine lv_iconst (v := (-1)) hC.x hC.b dX7_ofPaper_21 (by decide) ?_
      exact reti hC hK hR hS ⟨rfl, (trivial)⟩ dX7_ofPaper_22
    · skip
      refine lv_iload_n hC.x hC.b dX7_ofPaper_10 rfl (lv_at hl 2 rfl) ?_
      refine bz_lt (tgt := 21) (a := hr.toInt) (b := 0) hC.x hC.b rfl rfl dX7_ofPaper_11 (by decide) (fun c_3 => ?_) (fun c_3 => ?_)
      · skip
        refine lv_iconst (v := (-1)) hC.x hC.b dX7_ofPaper_21 (by decide) ?_
        exact reti hC hK hR hS ⟨rfl, (trivial)⟩ dX7_ofPaper_22
      · skip
        refine lv_iload_n hC.x hC.b dX7_ofPaper_14 rfl (lv_at hl 2 rfl) ?_
        refine lv_sipush (v := 200) hC.x hC.b dX7_ofPaper_15 (by decide) ?_
        refine bi_lt (tgt := 23) (a := hr.toInt) (b := 200) hC.x hC.b rfl rfl dX7_ofPaper_18 (by decide) (fun c_4 => ?_) (fun c_4 => ?_)
        · skip
          refine lv_aload_n hC.x hC.b dX7_ofPaper_23 rfl (lv_at hl 0 rfl) ?_
          refine rget hC hK hR (ct_told G _ _) rfl uin_X7 1 (by decide) TF_X7_16 rfl dX7_ofPaper_24 ?_
          refine lv_iload_n hC.x hC.b dX7_ofPaper_27 rfl (lv_at hl 1 rfl) ?_
          have hq_5 : wa.toInt.toNat < 6 := by omega
          refine aald (t0 := 4) hC hK hR (by decide) rfl (ct_paperRows G _ _) rfl (by omega) (by omega) rfl dX7_ofPaper_28 ?_
          refine lv_iload_n hC.x hC.b dX7_ofPaper_29 rfl (lv_at hl 2 rfl) ?_
          refine ald hC hK hR (ct_pr hq_5 G _ _) rfl (by omega) (by omega) rfl dX7_ofPaper_30 ?_
          exact reti hC hK hR hS ⟨rfl, (trivial)⟩ dX7_ofPaper_31
        · skip
          refine lv_iconst (v := (-1)) hC.x hC.b dX7_ofPaper_21 (by decide) ?_
          exact reti hC hK hR hS ⟨rfl, (trivial)⟩ dX7_ofPaper_22

abbrev po_X8_lengthTo (σ : SI) (τ : SL) (pl : Int32) (q : Nat) : Int32 → SI × SL → Prop := fun v u => u = (σ, τ) ∧ (((v = σ 14 q) ∧ (0 ≤ pl.toInt) ∧ (pl.toInt < 24)) ∨ ((v = (-1)) ∧ (¬ (0 ≤ pl.toInt ∧ pl.toInt < 24))))
set_option maxRecDepth 100000 in
set_option maxHeartbeats 4000000 in
theorem c_X8_lengthTo (l : Launch) {G : Gx} {A : Nat → Prop} (hG : GOk G A) (σ : SI) (τ : SL) (pl : Int32) (q : Nat) (hp_q : pl.toInt.toNat = q) : MI l G A 0 yX8_lengthTo cX8_lengthTo 2 (some .int) [.ref (G.2.1 12), .int pl] (σ, τ) (po_X8_lengthTo σ τ pl q) := by
  refine met_of (own := RX8) (by decide +kernel) rfl [(0, .ref (G.2.1 12)), (1, .int pl)] rfl (Nat.le_of_ble_eq_true rfl) ?_
  intro p e s m args below meth c ls hC hK hR hl
  have hS : va_S A s.heap s.heap [] := va_S.rf
  refine lv_iload_n hC.x hC.b dX8_lengthTo_0 rfl (lv_at hl 1 rfl) ?_
  refine bz_lt (tgt := 22) (a := pl.toInt) (b := 0) hC.x hC.b rfl rfl dX8_lengthTo_1 (by decide) (fun c_1 => ?_) (fun c_1 => ?_)
  · skip
    refine lv_iconst (v := (-1)) hC.x hC.b dX8_lengthTo_22 (by decide) ?_
    exact reti hC hK hR hS ⟨rfl, (by first | exact Or.inl (⟨by first | rfl | omega, by first | omega | assumption, by first | omega | assumption⟩) | exact Or.inr ((⟨by first | rfl | omega, by first | omega | assumption⟩)) | exact False.elim (by omega))⟩ dX8_lengthTo_23
  · skip
    refine lv_iload_n hC.x hC.b dX8_lengthTo_4 rfl (lv_at hl 1 rfl) ?_
    refine lv_aload_n hC.x hC.b dX8_lengthTo_5 rfl (lv_at hl 0 rfl) ?_
    refine rget hC hK hR (ct_ways G _ _) rfl uin_X8 2 (by decide) TF_X8_15 rfl dX8_lengthTo_6 ?_
    refine ralen (t := 0) hC hK hR (by decide) (ct_lengths G _ _) (v := 24) rfl dX8_lengthTo_9 ?_
    refine bi_ge (tgt := 22) (a := pl.toInt) (b := 24) hC.x hC.b rfl rfl dX8_lengthTo_10 (by decide) (fun c_2 => ?_) (fun c_2 => ?_)
    · skip
      refine lv_iconst (v := (-1)) hC.x hC.b dX8_lengthTo_22 (by decide) ?_
      exact reti hC hK hR hS ⟨rfl, (by first | exact Or.inl (⟨by first | rfl | omega, by first | omega | assumption, by first | omega | assumption⟩) | exact Or.inr ((⟨by first | rfl | omega, by first | omega | assumption⟩)) | exact False.elim (by omega))⟩ dX8_lengthTo_23
    · skip
      refine lv_aload_n hC.x hC.b dX8_lengthTo_13 rfl (lv_at hl 0 rfl) ?_
      refine rget hC hK hR (ct_ways G _ _) rfl uin_X8 2 (by decide) TF_X8_15 rfl dX8_lengthTo_14 ?_
      refine lv_iload_n hC.x hC.b dX8_lengthTo_17 rfl (lv_at hl 1 rfl) ?_
      refine ald hC hK hR (ct_lengths G _ _) rfl (by omega) (by omega) hp_q dX8_lengthTo_18 ?_
      refine lv_goto (tgt := 23) hC.x hC.b dX8_lengthTo_19 (by decide) ?_
      exact reti hC hK hR hS ⟨rfl, (by first | exact Or.inl (⟨by first | rfl | omega, by first | omega | assumption, by first | omega | assumption⟩) | exact Or.inr ((⟨by first | rfl | omega, by first | omega | assumption⟩)) | exact False.elim (by omega))⟩ dX8_lengthTo_23

abbrev po_X8_sumTo (σ : SI) (τ : SL) (pl : Int32) : Int32 → SI × SL → Prop := fun v u => u = (σ, τ) ∧ (True)
set_option maxRecDepth 100000 in
set_option maxHeartbeats 4000000 in
theorem c_X8_sumTo (l : Launch) {G : Gx} {A : Nat → Prop} (hG : GOk G A) (σ : SI) (τ : SL) (pl : Int32) : MI l G A 0 yX8_sumTo cX8_sumTo 2 (some .int) [.ref (G.2.1 12), .int pl] (σ, τ) (po_X8_sumTo σ τ pl) := by
  refine met_of (own := RX8) (by decide +kernel) rfl [(0, .ref (G.2.1 12)), (1, .int pl)] rfl (Nat.le_of_ble_eq_true rfl) ?_
  intro p e s m args below meth c ls hC hK hR hl
  have hS : va_S A s.heap s.heap [] := va_S.rf
  refine lv_iload_n hC.x hC.b dX8_sumTo_0 rfl (lv_at hl 1 rfl) ?_
  refine bz_lt (tgt := 22) (a := pl.toInt) (b := 0) hC.x hC.b rfl rfl dX8_sumTo_1 (by decide) (fun c_1 => ?_) (fun c_1 => ?_)
  · skip
    refine lv_iconst (v := 0) hC.x hC.b dX8_sumTo_22 (by decide) ?_
    exact reti hC hK hR hS ⟨rfl, (trivial)⟩ dX8_sumTo_23
  · skip
    refine lv_iload_n hC.x hC.b dX8_sumTo_4 rfl (lv_at hl 1 rfl) ?_
    refine lv_aload_n hC.x hC.b dX8_sumTo_5 rfl (lv_at hl 0 rfl) ?_
    refine rget hC hK hR (ct_ways G _ _) rfl uin_X8 3 (by decide) TF_X8_18 rfl dX8_sumTo_6 ?_
    refine ralen (t := 0) hC hK hR (by decide) (ct_sums G _ _) (v := 24) rfl dX8_sumTo_9 ?_
    refine bi_ge (tgt := 22) (a := pl.toInt) (b := 24) hC.x hC.b rfl rfl dX8_sumTo_10 (by decide) (fun c_2 => ?_) (fun c_2 => ?_)
    · skip
      refine lv_iconst (v := 0) hC.x hC.b dX8_sumTo_22 (by decide) ?_
      exact reti hC hK hR hS ⟨rfl, (trivial)⟩ dX8_sumTo_23
    · skip
      refine lv_aload_n hC.x hC.b dX8_sumTo_13 rfl (lv_at hl 0 rfl) ?_
      refine rget hC hK hR (ct_ways G _ _) rfl uin_X8 3 (by decide) TF_X8_18 rfl dX8_sumTo_14 ?_
      refine lv_iload_n hC.x hC.b dX8_sumTo_17 rfl (lv_at hl 1 rfl) ?_
      refine ald hC hK hR (ct_sums G _ _) rfl (by omega) (by omega) rfl dX8_sumTo_18 ?_
      refine lv_goto (tgt := 23) hC.x hC.b dX8_sumTo_19 (by decide) ?_
      exact reti hC hK hR hS ⟨rfl, (trivial)⟩ dX8_sumTo_23

abbrev po_X8_reach (σ : SI) (τ : SL) (pl : Int32) (na : Int32) (sa : Int32) (la : Int32) (fa : Int32) : SI × SL → Prop := fun u => ((Fr (fun k => 12 ≤ k ∧ k ≤ 17) σ u.1) ∧ (0 ≤ (u.1 12 6).toInt))
set_option maxRecDepth 100000 in
set_option maxHeartbeats 4000000 in
theorem c_X8_reach (l : Launch) {G : Gx} {A : Nat → Prop} (hG : GOk G A) (σ : SI) (τ : SL) (pl : Int32) (na : Int32) (sa : Int32) (la : Int32) (fa : Int32) (hqd : 0 ≤ (σ 12 6).toInt) : MV l G A 0 yX8_reach cX8_reach 6 none [.ref (G.2.1 12), .int pl, .int na, .int sa, .int la, .int fa] (σ, τ) (po_X8_reach σ τ pl na sa la fa) := by
  refine met_of (own := RX8) (by decide +kernel) rfl [(0, .ref (G.2.1 12)), (1, .int pl), (2, .int na), (3, .int sa), (4, .int la), (5, .int fa)] rfl (Nat.le_of_ble_eq_true rfl) ?_
  intro p e s m args below meth c ls hC hK hR hl
  have hS : va_S A s.heap s.heap [] := va_S.rf
  refine lv_iload_n hC.x hC.b dX8_reach_0 rfl (lv_at hl 1 rfl) ?_
  refine bz_lt (tgt := 19) (a := pl.toInt) (b := 0) hC.x hC.b rfl rfl dX8_reach_1 (by decide) (fun c_1 => ?_) (fun c_1 => ?_)
  · skip
    exact retv hC hK hR hS (⟨by exact Fr.rf, by first | omega | (dsimp only; omega)⟩) dX8_reach_19
  · skip
    refine lv_iload_n hC.x hC.b dX8_reach_4 rfl (lv_at hl 1 rfl) ?_
    refine lv_bipush (v := 24) hC.x hC.b dX8_reach_5 (by decide) ?_
    refine bi_ge (tgt := 19) (a := pl.toInt) (b := 24) hC.x hC.b rfl rfl dX8_reach_7 (by decide) (fun c_2 => ?_) (fun c_2 => ?_)
    · skip
      exact retv hC hK hR hS (⟨by exact Fr.rf, by first | omega | (dsimp only; omega)⟩) dX8_reach_19
    · skip
      refine lv_aload_n hC.x hC.b dX8_reach_10 rfl (lv_at hl 0 rfl) ?_
      refine rget hC hK hR (ct_ways G _ _) rfl uin_X8 6 (by decide) TF_X8_27 rfl dX8_reach_11 ?_
      refine lv_bipush (v := 24) hC.x hC.b dX8_reach_14 (by decide) ?_
      refine bi_lt (tgt := 20) (a := (σ 12 6).toInt) (b := 24) hC.x hC.b rfl rfl dX8_reach_16 (by decide) (fun c_3 => ?_) (fun c_3 => ?_)
      · skip
        refine lv_aload_n hC.x hC.b dX8_reach_20 rfl (lv_at hl 0 rfl) ?_
        refine rget hC hK hR (ct_ways G _ _) rfl uin_X8 2 (by decide) TF_X8_15 rfl dX8_reach_21 ?_
        refine lv_iload_n hC.x hC.b dX8_reach_24 rfl (lv_at hl 1 rfl) ?_
        refine lv_iload_n hC.x hC.b dX8_reach_25 rfl (lv_at hl 2 rfl) ?_
        refine ast hC hK hG hR hS (fun _ => ct_lengths G _ _) rfl (by omega) (by omega) rfl dX8_reach_26 (fun s_4 es_5 H locs hR hS => ?_)
        refine lv_aload_n hC.x hC.b dX8_reach_27 rfl (lv_at hl 0 rfl) ?_
        refine rget hC hK hR (ct_ways G _ _) rfl uin_X8 3 (by decide) TF_X8_18 rfl dX8_reach_28 ?_
        refine lv_iload_n hC.x hC.b dX8_reach_31 rfl (lv_at hl 1 rfl) ?_
        refine lv_iload_n hC.x hC.b dX8_reach_32 rfl (lv_at hl 3 rfl) ?_
        refine ast hC hK hG hR hS (fun _ => ct_sums G _ _) rfl (by omega) (by omega) rfl dX8_reach_33 (fun s_6 es_7 H locs hR hS => ?_)
        refine lv_aload_n hC.x hC.b dX8_reach_34 rfl (lv_at hl 0 rfl) ?_
        refine rget hC hK hR (ct_ways G _ _) rfl uin_X8 4 (by decide) TF_X8_21 rfl dX8_reach_35 ?_
        refine lv_iload_n hC.x hC.b dX8_reach_38 rfl (lv_at hl 1 rfl) ?_
        refine lv_iload hC.x hC.b dX8_reach_39 (lv_at hl 4 rfl) ?_
        refine ast hC hK hG hR hS (fun _ => ct_lastLinks G _ _) rfl (by omega) (by omega) rfl dX8_reach_41 (fun s_8 es_9 H locs hR hS => ?_)
        refine lv_aload_n hC.x hC.b dX8_reach_42 rfl (lv_at hl 0 rfl) ?_
        refine rget hC hK hR (ct_ways G _ _) rfl uin_X8 5 (by decide) TF_X8_24 rfl dX8_reach_43 ?_
        refine lv_iload_n hC.x hC.b dX8_reach_46 rfl (lv_at hl 1 rfl) ?_
        refine lv_iload hC.x hC.b dX8_reach_47 (lv_at hl 5 rfl) ?_
        refine ast hC hK hG hR hS (fun _ => ct_ahead G _ _) rfl (by omega) (by omega) rfl dX8_reach_49 (fun s_10 es_11 H locs hR hS => ?_)
        refine lv_aload_n hC.x hC.b dX8_reach_50 rfl (lv_at hl 0 rfl) ?_
        refine rget hC hK hR (ct_ways G _ _) rfl uin_X8 1 (by decide) TF_X8_9 rfl dX8_reach_51 ?_
        refine lv_aload_n hC.x hC.b dX8_reach_54 rfl (lv_at hl 0 rfl) ?_
        refine rget hC hK hR (ct_ways G _ _) rfl uin_X8 6 (by decide) TF_X8_27 rfl dX8_reach_55 ?_
        have rd_12 : (s_10 12 6).toInt = (σ 12 6).toInt := congrArg Int32.toInt (Eq.trans (show s_10 12 6 = s_8 12 6 from (by rw [es_11]; exact up2_o (by omega))) (Eq.trans (show s_8 12 6 = s_6 12 6 from (by rw [es_9]; exact up2_o (by omega))) (Eq.trans (show s_6 12 6 = s_4 12 6 from (by rw [es_7]; exact up2_o (by omega))) (show s_4 12 6 = σ 12 6 from (by rw [es_5]; exact up2_o (by omega))))))
        refine lv_iload_n hC.x hC.b dX8_reach_58 rfl (lv_at hl 1 rfl) ?_
        refine ast hC hK hG hR hS (fun _ => ct_queue G _ _) rfl (by omega) (by omega) rfl dX8_reach_59 (fun s_13 es_14 H locs hR hS => ?_)
        refine lv_aload_n hC.x hC.b dX8_reach_60 rfl (lv_at hl 0 rfl) ?_
        refine lv_dup hC.x hC.b dX8_reach_61 rfl ?_
        refine rget hC hK hR (ct_ways G _ _) rfl uin_X8 6 (by decide) TF_X8_27 rfl dX8_reach_62 ?_
        have rd_15 : (s_13 12 6).toInt = (σ 12 6).toInt := congrArg Int32.toInt (Eq.trans (show s_13 12 6 = s_10 12 6 from (by rw [es_14]; exact up2_o (by omega))) (Eq.trans (show s_10 12 6 = s_8 12 6 from (by rw [es_11]; exact up2_o (by omega))) (Eq.trans (show s_8 12 6 = s_6 12 6 from (by rw [es_9]; exact up2_o (by omega))) (Eq.trans (show s_6 12 6 = s_4 12 6 from (by rw [es_7]; exact up2_o (by omega))) (show s_4 12 6 = σ 12 6 from (by rw [es_5]; exact up2_o (by omega)))))))
        refine lv_iconst (v := 1) hC.x hC.b dX8_reach_65 (by decide) ?_
        refine lv_iadd hC.x hC.b dX8_reach_66 ?_
        have pr_16 : ((s_13 12 6) + (1 : Int32)).toInt = ((s_13 12 6).toInt + 1) := addI rfl rfl (by omega) (by omega)
        refine rputi hC hK hG hR hS (ct_ways G _ _) rfl uin_X8 tyX8 tyX8_ok nmX8 6 (by decide) TF_X8_27 rfl (Or.inl rfl) (Nat.le_of_ble_eq_true rfl) rfl (ct_ways G _ _) dX8_reach_67 (fun s_18 es_17 H locs hR hS => ?_)
        have rd_19 : (s_18 12 6).toInt = ((s_13 12 6) + (1 : Int32)).toInt := congrArg Int32.toInt (show s_18 12 6 = ((s_13 12 6) + (1 : Int32)) from (by rw [es_17]; exact up2_s))
        exact retv hC hK hR hS (⟨by exact (by rw [es_17]; exact Fr.up ((by rw [es_14]; exact Fr.up ((by rw [es_11]; exact Fr.up ((by rw [es_9]; exact Fr.up ((by rw [es_7]; exact Fr.up ((by rw [es_5]; exact Fr.up (Fr.rf) (by first | omega | (dsimp only; omega)))) (by first | omega | (dsimp only; omega)))) (by first | omega | (dsimp only; omega)))) (by first | omega | (dsimp only; omega)))) (by first | omega | (dsimp only; omega)))) (by first | omega | (dsimp only; omega))), by first | omega | (dsimp only; omega)⟩) dX8_reach_70
      · skip
        exact retv hC hK hR hS (⟨by exact Fr.rf, by first | omega | (dsimp only; omega)⟩) dX8_reach_19

abbrev po_X8_spreadOn (σ : SI) (τ : SL) (fr : Int32) (hr : Int32) : SI × SL → Prop := fun u => ((Fr (fun k => 12 ≤ k ∧ k ≤ 17) σ u.1) ∧ (0 ≤ (u.1 12 6).toInt))
set_option maxRecDepth 100000 in
set_option maxHeartbeats 4000000 in
theorem c_X8_spreadOn (l : Launch) {G : Gx} {A : Nat → Prop} (hG : GOk G A) (σ : SI) (τ : SL) (fr : Int32) (hr : Int32) (hqd : 0 ≤ (σ 12 6).toInt) : MV l G A 2 yX8_spreadOn cX8_spreadOn 8 none [.ref (G.2.1 12), .int fr, .int hr] (σ, τ) (po_X8_spreadOn σ τ fr hr) := by
  refine met_of (own := RX8) (by decide +kernel) rfl [(0, .ref (G.2.1 12)), (1, .int fr), (2, .int hr)] rfl (Nat.le_of_ble_eq_true rfl) ?_
  intro p e s m args below meth c ls hC hK hR hl
  have hS : va_S A s.heap s.heap [] := va_S.rf
  refine lv_iconst (v := 0) hC.x hC.b dX8_spreadOn_0 (by decide) ?_
  refine lv_istore_n (lv' := [(3, .int (0 : Int32)), (0, .ref (G.2.1 12)), (1, .int fr), (2, .int hr)]) hC.x hC.b dX8_spreadOn_1 rfl hl (by decide) rfl (fun ls hl => ?_)
  have L_2 : ∀ (F : Nat) (n : Nat) (s1 : SI) (t1 : SL), (24 - n) < F → (n ≤ 24) → (0 ≤ (s1 12 6).toInt) → (Fr (fun k => 12 ≤ k ∧ k ≤ 17) σ s1) → ∀ (H : Heap) (locs : List Loc) (ls : Array Slot), RepH G s1 t1 H → va_S A s.heap H locs → lv_has ls 8 [(0, .ref (G.2.1 12)), (1, .int fr), (2, .int hr), (3, .int (nI n))] → W p l e (rmD 2) s m args below meth c H locs 0 0 (MQ below (va_Qv (po_X8_spreadOn σ τ fr hr) (BU G) A) args s 0 0 A) (F0 m 2 ls []) := by
    intro F
    induction F with
    | zero => intro n s1 t1 hm; exact absurd hm (Nat.not_lt_zero _)
    | succ F ih_2 =>
      intro n s1 t1 hm_2 hi0_2 hi1_2 hi2_2 H locs ls hR hS hl
      have hnI := nI_T n (by omega)
      refine lv_iload_n hC.x hC.b dX8_spreadOn_2 rfl (lv_at hl 3 rfl) ?_
      refine lv_bipush (v := 24) hC.x hC.b dX8_spreadOn_3 (by decide) ?_
      refine bi_ge (tgt := 116) (a := (n : Int)) (b := 24) hC.x hC.b (nI_T n (by omega)) rfl dX8_spreadOn_5 (by decide) (fun c_1 => ?_) (fun c_1 => ?_)
      · skip
        exact retv hC hK hR hS (⟨by exact hi2_2, by first | omega | (dsimp only; omega)⟩) dX8_spreadOn_116
      · skip
        refine lv_aload_n hC.x hC.b dX8_spreadOn_8 rfl (lv_at hl 0 rfl) ?_
        refine rget hC hK hR (ct_ways G _ _) rfl uin_X8 0 (by decide) TF_X8_31 rfl dX8_spreadOn_9 ?_
        refine lv_iload_n hC.x hC.b dX8_spreadOn_12 rfl (lv_at hl 3 rfl) ?_
        have av_2 : (nI n).toInt = (n : Int) := (nI_T n (by omega))
        refine goqp (runV (As := [.int (nI n)]) (rest := []) hC hK hR hl.1 (c_X5_linkAt l hG s1 t1 (nI n) n (by first | rfl | (rw [show (nI n).toInt = (n : Int) from (nI_T n (by omega))]; done) | (rw [show (nI n).toInt = (n : Int) from (nI_T n (by omega))]; exact (Int.toNat_natCast _))) ) (call_b hC.ts TC_X5_linkAt TN_X5 TM_X8_49 hd_X5_linkAt ⟨Nat.le_of_ble_eq_true rfl, Nat.le_of_ble_eq_true rfl⟩) TI_X5_linkAt TS_X5_linkAt (ct_shelf G _ _) rfl rfl rfl (Nat.le_of_ble_eq_true rfl) dX8_spreadOn_13 ⟨Nat.le_of_ble_eq_true rfl, Nat.le_of_ble_eq_true rfl⟩) hS (fun v_3 H locs w_4 hR hS => ?_)
        rcases w_4 with ⟨rfl, f_5⟩ | ⟨rfl, f_6, f_7, f_8, f_9⟩
        · skip
          refine lv_astoreN (lv' := [(4, .null), (0, .ref (G.2.1 12)), (1, .int fr), (2, .int hr), (3, .int (nI n))]) hC.x hC.b dX8_spreadOn_16 hl (by decide) rfl (fun ls hl => ?_)
          refine lv_aloadN hC.x hC.b dX8_spreadOn_18 (lv_at hl 0 rfl) ?_
          refine lv_ifnonnullN hC.x hC.b dX8_spreadOn_20 ?_
          refine lv_goto (tgt := 110) hC.x hC.b dX8_spreadOn_23 (by decide) ?_
          refine lv_iinc (v := nI (n + 1)) (lv' := [(3, .int (nI (n + 1))), (4, .null), (0, .ref (G.2.1 12)), (1, .int fr), (2, .int hr)]) hC.x hC.b dX8_spreadOn_110 hl (k := 4) rfl (nI_succ _).symm (by decide) rfl (fun ls hl => ?_)
          refine lv_goto (tgt := 2) hC.x hC.b dX8_spreadOn_113 (by decide) ?_
          exact ih_2 (n + 1) s1 t1 (by omega) (by first | omega | assumption) (by first | omega | assumption) hi2_2 _ _ _ hR hS (lv_sub hl [2, 3, 4, 0] rfl)
        · skip
          have hq_10 : n < 24 := by omega
          refine lv_astore (lv' := [(4, .ref (G.2.1 (104 + n))), (0, .ref (G.2.1 12)), (1, .int fr), (2, .int hr), (3, .int (nI n))]) hC.x hC.b dX8_spreadOn_16 hl (by decide) rfl (fun ls hl => ?_)
          refine lv_aload hC.x hC.b dX8_spreadOn_18 (lv_at hl 0 rfl) ?_
          refine lv_ifnonnull (tgt := 26) hC.x hC.b dX8_spreadOn_20 (by decide) ?_
          refine lv_aload hC.x hC.b dX8_spreadOn_26 (lv_at hl 0 rfl) ?_
          refine lv_iload_n hC.x hC.b dX8_spreadOn_28 rfl (lv_at hl 2 rfl) ?_
          refine goip (runV (As := [.int fr]) (rest := []) hC hK hR hl.1 (c_X4_otherEndFrom l hG s1 t1 n hq_10 fr ) (call_b hC.ts TC_X4_otherEndFrom TN_X4 TM_X8_55 hd_X4_otherEndFrom ⟨Nat.le_of_ble_eq_true rfl, Nat.le_of_ble_eq_true rfl⟩) TI_X4_otherEndFrom TS_X4_otherEndFrom (ct_link hq_10 G _ _) rfl rfl rfl (Nat.le_of_ble_eq_true rfl) dX8_spreadOn_29 ⟨Nat.le_of_ble_eq_true rfl, Nat.le_of_ble_eq_true rfl⟩) hS (fun v_11 H locs w_12 hR hS => ?_)
          subst w_12
          refine lv_istore (lv' := [(5, .int (otherC s1 n fr)), (4, .ref (G.2.1 (104 + n))), (0, .ref (G.2.1 12)), (1, .int fr), (2, .int hr), (3, .int (nI n))]) hC.x hC.b dX8_spreadOn_32 hl (by decide) rfl (fun ls hl => ?_)
          refine lv_aload hC.x hC.b dX8_spreadOn_34 (lv_at hl 1 rfl) ?_
          refine lv_iload_n hC.x hC.b dX8_spreadOn_36 rfl (lv_at hl 4 rfl) ?_
          refine goip (runV (As := [.int hr]) (rest := []) hC hK hR hl.1 (c_X4_toldAt l hG s1 t1 n hq_10 hr ) (call_b hC.ts TC_X4_toldAt TN_X4 TM_X8_61 hd_X4_toldAt ⟨Nat.le_of_ble_eq_true rfl, Nat.le_of_ble_eq_true rfl⟩) TI_X4_toldAt TS_X4_toldAt (ct_link hq_10 G _ _) rfl rfl rfl (Nat.le_of_ble_eq_true rfl) dX8_spreadOn_37 ⟨Nat.le_of_ble_eq_true rfl, Nat.le_of_ble_eq_true rfl⟩) hS (fun v_13 H locs w_14 hR hS => ?_)
          subst w_14
          refine lv_istore (lv' := [(6, .int (toldC s1 n hr)), (5, .int (otherC s1 n fr)), (4, .ref (G.2.1 (104 + n))), (0, .ref (G.2.1 12)), (1, .int fr), (2, .int hr), (3, .int (nI n))]) hC.x hC.b dX8_spreadOn_40 hl (by decide) rfl (fun ls hl => ?_)
          refine lv_iload hC.x hC.b dX8_spreadOn_42 (lv_at hl 1 rfl) ?_
          refine lv_iconst (v := (-1)) hC.x hC.b dX8_spreadOn_44 (by decide) ?_
          refine bi_eq (tgt := 110) (a := (otherC s1 n fr).toInt) (b := (-1)) hC.x hC.b rfl rfl dX8_spreadOn_45 (by decide) (fun c_15 => ?_) (fun c_15 => ?_)
          · skip
            refine lv_iinc (v := nI (n + 1)) (lv' := [(3, .int (nI (n + 1))), (6, .int (toldC s1 n hr)), (5, .int (otherC s1 n fr)), (4, .ref (G.2.1 (104 + n))), (0, .ref (G.2.1 12)), (1, .int fr), (2, .int hr)]) hC.x hC.b dX8_spreadOn_110 hl (k := 6) rfl (nI_succ _).symm (by decide) rfl (fun ls hl => ?_)
            refine lv_goto (tgt := 2) hC.x hC.b dX8_spreadOn_113 (by decide) ?_
            exact ih_2 (n + 1) s1 t1 (by omega) (by first | omega | assumption) (by first | omega | assumption) hi2_2 _ _ _ hR hS (lv_sub hl [4, 5, 6, 0] rfl)
          · skip
            refine lv_iload hC.x hC.b dX8_spreadOn_48 (lv_at hl 0 rfl) ?_
            refine lv_ldc hC.x hC.b hC.ow (hC.ts _ TK_X8_64) dX8_spreadOn_50 ?_
            refine bi_eq (tgt := 110) (a := (toldC s1 n hr).toInt) (b := 1000000) hC.x hC.b rfl rfl dX8_spreadOn_52 (by decide) (fun c_16 => ?_) (fun c_16 => ?_)
            · skip
              refine lv_iinc (v := nI (n + 1)) (lv' := [(3, .int (nI (n + 1))), (6, .int (toldC s1 n hr)), (5, .int (otherC s1 n fr)), (4, .ref (G.2.1 (104 + n))), (0, .ref (G.2.1 12)), (1, .int fr), (2, .int hr)]) hC.x hC.b dX8_spreadOn_110 hl (k := 6) rfl (nI_succ _).symm (by decide) rfl (fun ls hl => ?_)
              refine lv_goto (tgt := 2) hC.x hC.b dX8_spreadOn_113 (by decide) ?_
              exact ih_2 (n + 1) s1 t1 (by omega) (by first | omega | assumption) (by first | omega | assumption) hi2_2 _ _ _ hR hS (lv_sub hl [4, 5, 6, 0] rfl)
            · skip
              refine lv_aload_n hC.x hC.b dX8_spreadOn_55 rfl (lv_at hl 3 rfl) ?_
              refine lv_iload hC.x hC.b dX8_spreadOn_56 (lv_at hl 1 rfl) ?_
              refine goip (runV (As := [.int (otherC s1 n fr)]) (rest := []) hC hK hR hl.1 (c_X8_lengthTo l hG s1 t1 (otherC s1 n fr) (((otherC s1 n fr).toInt).toNat) (by first | rfl | (rw [show (otherC s1 n fr).toInt = (otherC s1 n fr).toInt from rfl]; done) | (rw [show (otherC s1 n fr).toInt = (otherC s1 n fr).toInt from rfl]; exact rfl)) ) (call_b hC.ts TC_X8_lengthTo TN_X8 TM_X8_65 hd_X8_lengthTo ⟨Nat.le_of_ble_eq_true rfl, Nat.le_of_ble_eq_true rfl⟩) TI_X8_lengthTo TS_X8_lengthTo (ct_ways G _ _) rfl rfl rfl (Nat.le_of_ble_eq_true rfl) dX8_spreadOn_58 ⟨Nat.le_of_ble_eq_true rfl, Nat.le_of_ble_eq_true rfl⟩) hS (fun v_17 H locs w_18 hR hS => ?_)
              rcases w_18 with ⟨rfl, f_19, f_20⟩ | ⟨rfl, f_21⟩
              · skip
                refine lv_iconst (v := (-1)) hC.x hC.b dX8_spreadOn_61 (by decide) ?_
                refine bi_eq (tgt := 68) (a := (s1 14 (((otherC s1 n fr).toInt).toNat)).toInt) (b := (-1)) hC.x hC.b rfl rfl dX8_spreadOn_62 (by decide) (fun c_22 => ?_) (fun c_22 => ?_)
                · skip
                  refine lv_aload hC.x hC.b dX8_spreadOn_68 (lv_at hl 2 rfl) ?_
                  refine rget hC hK hR (ct_link hq_10 G _ _) rfl uin_X4 1 (by decide) TF_X8_68 rfl dX8_spreadOn_70 ?_
                  have rd_23 : (s1 (104 + n) 1).toInt = (σ (104 + n) 1).toInt := congrArg Int32.toInt (show s1 (104 + n) 1 = σ (104 + n) 1 from congrFun (hi2_2 (104 + n) (by first | omega | (dsimp only; omega))) 1)
                  refine lv_iload_n hC.x hC.b dX8_spreadOn_73 rfl (lv_at hl 4 rfl) ?_
                  refine bi_ne (tgt := 82) (a := (s1 (104 + n) 1).toInt) (b := fr.toInt) hC.x hC.b rfl rfl dX8_spreadOn_74 (by decide) (fun c_24 => ?_) (fun c_24 => ?_)
                  · skip
                    refine lv_iload hC.x hC.b dX8_spreadOn_82 (lv_at hl 0 rfl) ?_
                    refine lv_ineg hC.x hC.b dX8_spreadOn_84 ?_
                    refine lv_istore (lv' := [(7, .int (-(toldC s1 n hr))), (6, .int (toldC s1 n hr)), (5, .int (otherC s1 n fr)), (4, .ref (G.2.1 (104 + n))), (0, .ref (G.2.1 12)), (1, .int fr), (2, .int hr), (3, .int (nI n))]) hC.x hC.b dX8_spreadOn_85 hl (by decide) rfl (fun ls hl => ?_)
                    refine lv_aload_n hC.x hC.b dX8_spreadOn_87 rfl (lv_at hl 4 rfl) ?_
                    refine lv_iload hC.x hC.b dX8_spreadOn_88 (lv_at hl 2 rfl) ?_
                    refine lv_aload_n hC.x hC.b dX8_spreadOn_90 rfl (lv_at hl 4 rfl) ?_
                    refine lv_iload_n hC.x hC.b dX8_spreadOn_91 rfl (lv_at hl 5 rfl) ?_
                    refine goip (runV (As := [.int fr]) (rest := [.int (otherC s1 n fr), .ref (G.2.1 12)]) hC hK hR hl.1 (c_X8_lengthTo l hG s1 t1 fr fr.toInt.toNat rfl ) (call_b hC.ts TC_X8_lengthTo TN_X8 TM_X8_65 hd_X8_lengthTo ⟨Nat.le_of_ble_eq_true rfl, Nat.le_of_ble_eq_true rfl⟩) TI_X8_lengthTo TS_X8_lengthTo (ct_ways G _ _) rfl rfl rfl (Nat.le_of_ble_eq_true rfl) dX8_spreadOn_92 ⟨Nat.le_of_ble_eq_true rfl, Nat.le_of_ble_eq_true rfl⟩) hS (fun v_25 H locs w_26 hR hS => ?_)
                    rcases w_26 with ⟨rfl, f_27, f_28⟩ | ⟨rfl, f_29⟩
                    · skip
                      refine lv_iconst (v := 1) hC.x hC.b dX8_spreadOn_95 (by decide) ?_
                      refine lv_iadd hC.x hC.b dX8_spreadOn_96 ?_
                      refine lv_aload_n hC.x hC.b dX8_spreadOn_97 rfl (lv_at hl 4 rfl) ?_
                      refine lv_iload_n hC.x hC.b dX8_spreadOn_98 rfl (lv_at hl 5 rfl) ?_
                      refine goip (runV (As := [.int fr]) (rest := [.int ((s1 14 fr.toInt.toNat) + (1 : Int32)), .int (otherC s1 n fr), .ref (G.2.1 12)]) hC hK hR hl.1 (c_X8_sumTo l hG s1 t1 fr ) (call_b hC.ts TC_X8_sumTo TN_X8 TM_X8_71 hd_X8_sumTo ⟨Nat.le_of_ble_eq_true rfl, Nat.le_of_ble_eq_true rfl⟩) TI_X8_sumTo TS_X8_sumTo (ct_ways G _ _) rfl rfl rfl (Nat.le_of_ble_eq_true rfl) dX8_spreadOn_99 ⟨Nat.le_of_ble_eq_true rfl, Nat.le_of_ble_eq_true rfl⟩) hS (fun v_30 H locs w_31 hR hS => ?_)
                      refine lv_iload hC.x hC.b dX8_spreadOn_102 (lv_at hl 0 rfl) ?_
                      refine lv_iadd hC.x hC.b dX8_spreadOn_104 ?_
                      refine lv_iload_n hC.x hC.b dX8_spreadOn_105 rfl (lv_at hl 7 rfl) ?_
                      refine lv_iload_n hC.x hC.b dX8_spreadOn_106 rfl (lv_at hl 5 rfl) ?_
                      have av_32 : (nI n).toInt = (n : Int) := (nI_T n (by omega))
                      refine gov (runV (As := [.int (otherC s1 n fr), .int ((s1 14 fr.toInt.toNat) + (1 : Int32)), .int (v_30 + (-(toldC s1 n hr))), .int (nI n), .int fr]) (rest := []) hC hK hR hl.1 (c_X8_reach l hG s1 t1 (otherC s1 n fr) ((s1 14 fr.toInt.toNat) + (1 : Int32)) (v_30 + (-(toldC s1 n hr))) (nI n) fr (by first | omega | assumption)) (call_b hC.ts TC_X8_reach TN_X8 TM_X8_41 hd_X8_reach ⟨Nat.le_of_ble_eq_true rfl, Nat.le_of_ble_eq_true rfl⟩) TI_X8_reach TS_X8_reach (ct_ways G _ _) rfl rfl rfl (Nat.le_of_ble_eq_true rfl) dX8_spreadOn_107 ⟨Nat.le_of_ble_eq_true rfl, Nat.le_of_ble_eq_true rfl⟩) hS (fun s_35 t_36 H locs w_34 hR hS => ?_)
                      try dsimp only [po_X8_reach] at w_34
                      obtain ⟨f_37, f_38⟩ := w_34
                      refine lv_iinc (v := nI (n + 1)) (lv' := [(3, .int (nI (n + 1))), (7, .int (-(toldC s1 n hr))), (6, .int (toldC s1 n hr)), (5, .int (otherC s1 n fr)), (4, .ref (G.2.1 (104 + n))), (0, .ref (G.2.1 12)), (1, .int fr), (2, .int hr)]) hC.x hC.b dX8_spreadOn_110 hl (k := 7) rfl (nI_succ _).symm (by decide) rfl (fun ls hl => ?_)
                      refine lv_goto (tgt := 2) hC.x hC.b dX8_spreadOn_113 (by decide) ?_
                      exact ih_2 (n + 1) s_35 t_36 (by omega) (by first | omega | assumption) (by first | omega | assumption) (Fr.tr hi2_2 f_37) _ _ _ hR hS (lv_sub hl [5, 6, 7, 0] rfl)
                    · skip
                      refine lv_iconst (v := 1) hC.x hC.b dX8_spreadOn_95 (by decide) ?_
                      refine lv_iadd hC.x hC.b dX8_spreadOn_96 ?_
                      refine lv_aload_n hC.x hC.b dX8_spreadOn_97 rfl (lv_at hl 4 rfl) ?_
                      refine lv_iload_n hC.x hC.b dX8_spreadOn_98 rfl (lv_at hl 5 rfl) ?_
                      refine goip (runV (As := [.int fr]) (rest := [.int ((-1 : Int32) + (1 : Int32)), .int (otherC s1 n fr), .ref (G.2.1 12)]) hC hK hR hl.1 (c_X8_sumTo l hG s1 t1 fr ) (call_b hC.ts TC_X8_sumTo TN_X8 TM_X8_71 hd_X8_sumTo ⟨Nat.le_of_ble_eq_true rfl, Nat.le_of_ble_eq_true rfl⟩) TI_X8_sumTo TS_X8_sumTo (ct_ways G _ _) rfl rfl rfl (Nat.le_of_ble_eq_true rfl) dX8_spreadOn_99 ⟨Nat.le_of_ble_eq_true rfl, Nat.le_of_ble_eq_true rfl⟩) hS (fun v_39 H locs w_40 hR hS => ?_)
                      refine lv_iload hC.x hC.b dX8_spreadOn_102 (lv_at hl 0 rfl) ?_
                      refine lv_iadd hC.x hC.b dX8_spreadOn_104 ?_
                      refine lv_iload_n hC.x hC.b dX8_spreadOn_105 rfl (lv_at hl 7 rfl) ?_
                      refine lv_iload_n hC.x hC.b dX8_spreadOn_106 rfl (lv_at hl 5 rfl) ?_
                      have av_41 : (nI n).toInt = (n : Int) := (nI_T n (by omega))
                      refine gov (runV (As := [.int (otherC s1 n fr), .int ((-1 : Int32) + (1 : Int32)), .int (v_39 + (-(toldC s1 n hr))), .int (nI n), .int fr]) (rest := []) hC hK hR hl.1 (c_X8_reach l hG s1 t1 (otherC s1 n fr) ((-1 : Int32) + (1 : Int32)) (v_39 + (-(toldC s1 n hr))) (nI n) fr (by first | omega | assumption)) (call_b hC.ts TC_X8_reach TN_X8 TM_X8_41 hd_X8_reach ⟨Nat.le_of_ble_eq_true rfl, Nat.le_of_ble_eq_true rfl⟩) TI_X8_reach TS_X8_reach (ct_ways G _ _) rfl rfl rfl (Nat.le_of_ble_eq_true rfl) dX8_spreadOn_107 ⟨Nat.le_of_ble_eq_true rfl, Nat.le_of_ble_eq_true rfl⟩) hS (fun s_44 t_45 H locs w_43 hR hS => ?_)
                      try dsimp only [po_X8_reach] at w_43
                      obtain ⟨f_46, f_47⟩ := w_43
                      refine lv_iinc (v := nI (n + 1)) (lv' := [(3, .int (nI (n + 1))), (7, .int (-(toldC s1 n hr))), (6, .int (toldC s1 n hr)), (5, .int (otherC s1 n fr)), (4, .ref (G.2.1 (104 + n))), (0, .ref (G.2.1 12)), (1, .int fr), (2, .int hr)]) hC.x hC.b dX8_spreadOn_110 hl (k := 7) rfl (nI_succ _).symm (by decide) rfl (fun ls hl => ?_)
                      refine lv_goto (tgt := 2) hC.x hC.b dX8_spreadOn_113 (by decide) ?_
                      exact ih_2 (n + 1) s_44 t_45 (by omega) (by first | omega | assumption) (by first | omega | assumption) (Fr.tr hi2_2 f_46) _ _ _ hR hS (lv_sub hl [5, 6, 7, 0] rfl)
                  · skip
                    refine lv_iload hC.x hC.b dX8_spreadOn_77 (lv_at hl 0 rfl) ?_
                    refine lv_goto (tgt := 85) hC.x hC.b dX8_spreadOn_79 (by decide) ?_
                    refine lv_istore (lv' := [(7, .int (toldC s1 n hr)), (6, .int (toldC s1 n hr)), (5, .int (otherC s1 n fr)), (4, .ref (G.2.1 (104 + n))), (0, .ref (G.2.1 12)), (1, .int fr), (2, .int hr), (3, .int (nI n))]) hC.x hC.b dX8_spreadOn_85 hl (by decide) rfl (fun ls hl => ?_)
                    refine lv_aload_n hC.x hC.b dX8_spreadOn_87 rfl (lv_at hl 4 rfl) ?_
                    refine lv_iload hC.x hC.b dX8_spreadOn_88 (lv_at hl 2 rfl) ?_
                    refine lv_aload_n hC.x hC.b dX8_spreadOn_90 rfl (lv_at hl 4 rfl) ?_
                    refine lv_iload_n hC.x hC.b dX8_spreadOn_91 rfl (lv_at hl 5 rfl) ?_
                    refine goip (runV (As := [.int fr]) (rest := [.int (otherC s1 n fr), .ref (G.2.1 12)]) hC hK hR hl.1 (c_X8_lengthTo l hG s1 t1 fr fr.toInt.toNat rfl ) (call_b hC.ts TC_X8_lengthTo TN_X8 TM_X8_65 hd_X8_lengthTo ⟨Nat.le_of_ble_eq_true rfl, Nat.le_of_ble_eq_true rfl⟩) TI_X8_lengthTo TS_X8_lengthTo (ct_ways G _ _) rfl rfl rfl (Nat.le_of_ble_eq_true rfl) dX8_spreadOn_92 ⟨Nat.le_of_ble_eq_true rfl, Nat.le_of_ble_eq_true rfl⟩) hS (fun v_48 H locs w_49 hR hS => ?_)
                    rcases w_49 with ⟨rfl, f_50, f_51⟩ | ⟨rfl, f_52⟩
                    · skip
                      refine lv_iconst (v := 1) hC.x hC.b dX8_spreadOn_95 (by decide) ?_
                      refine lv_iadd hC.x hC.b dX8_spreadOn_96 ?_
                      refine lv_aload_n hC.x hC.b dX8_spreadOn_97 rfl (lv_at hl 4 rfl) ?_
                      refine lv_iload_n hC.x hC.b dX8_spreadOn_98 rfl (lv_at hl 5 rfl) ?_
                      refine goip (runV (As := [.int fr]) (rest := [.int ((s1 14 fr.toInt.toNat) + (1 : Int32)), .int (otherC s1 n fr), .ref (G.2.1 12)]) hC hK hR hl.1 (c_X8_sumTo l hG s1 t1 fr ) (call_b hC.ts TC_X8_sumTo TN_X8 TM_X8_71 hd_X8_sumTo ⟨Nat.le_of_ble_eq_true rfl, Nat.le_of_ble_eq_true rfl⟩) TI_X8_sumTo TS_X8_sumTo (ct_ways G _ _) rfl rfl rfl (Nat.le_of_ble_eq_true rfl) dX8_spreadOn_99 ⟨Nat.le_of_ble_eq_true rfl, Nat.le_of_ble_eq_true rfl⟩) hS (fun v_53 H locs w_54 hR hS => ?_)
                      refine lv_iload hC.x hC.b dX8_spreadOn_102 (lv_at hl 0 rfl) ?_
                      refine lv_iadd hC.x hC.b dX8_spreadOn_104 ?_
                      refine lv_iload_n hC.x hC.b dX8_spreadOn_105 rfl (lv_at hl 7 rfl) ?_
                      refine lv_iload_n hC.x hC.b dX8_spreadOn_106 rfl (lv_at hl 5 rfl) ?_
                      have av_55 : (nI n).toInt = (n : Int) := (nI_T n (by omega))
                      refine gov (runV (As := [.int (otherC s1 n fr), .int ((s1 14 fr.toInt.toNat) + (1 : Int32)), .int (v_53 + (toldC s1 n hr)), .int (nI n), .int fr]) (rest := []) hC hK hR hl.1 (c_X8_reach l hG s1 t1 (otherC s1 n fr) ((s1 14 fr.toInt.toNat) + (1 : Int32)) (v_53 + (toldC s1 n hr)) (nI n) fr (by first | omega | assumption)) (call_b hC.ts TC_X8_reach TN_X8 TM_X8_41 hd_X8_reach ⟨Nat.le_of_ble_eq_true rfl, Nat.le_of_ble_eq_true rfl⟩) TI_X8_reach TS_X8_reach (ct_ways G _ _) rfl rfl rfl (Nat.le_of_ble_eq_true rfl) dX8_spreadOn_107 ⟨Nat.le_of_ble_eq_true rfl, Nat.le_of_ble_eq_true rfl⟩) hS (fun s_58 t_59 H locs w_57 hR hS => ?_)
                      try dsimp only [po_X8_reach] at w_57
                      obtain ⟨f_60, f_61⟩ := w_57
                      refine lv_iinc (v := nI (n + 1)) (lv' := [(3, .int (nI (n + 1))), (7, .int (toldC s1 n hr)), (6, .int (toldC s1 n hr)), (5, .int (otherC s1 n fr)), (4, .ref (G.2.1 (104 + n))), (0, .ref (G.2.1 12)), (1, .int fr), (2, .int hr)]) hC.x hC.b dX8_spreadOn_110 hl (k := 7) rfl (nI_succ _).symm (by decide) rfl (fun ls hl => ?_)
                      refine lv_goto (tgt := 2) hC.x hC.b dX8_spreadOn_113 (by decide) ?_
                      exact ih_2 (n + 1) s_58 t_59 (by omega) (by first | omega | assumption) (by first | omega | assumption) (Fr.tr hi2_2 f_60) _ _ _ hR hS (lv_sub hl [5, 6, 7, 0] rfl)
                    · skip
                      refine lv_iconst (v := 1) hC.x hC.b dX8_spreadOn_95 (by decide) ?_
                      refine lv_iadd hC.x hC.b dX8_spreadOn_96 ?_
                      refine lv_aload_n hC.x hC.b dX8_spreadOn_97 rfl (lv_at hl 4 rfl) ?_
                      refine lv_iload_n hC.x hC.b dX8_spreadOn_98 rfl (lv_at hl 5 rfl) ?_
                      refine goip (runV (As := [.int fr]) (rest := [.int ((-1 : Int32) + (1 : Int32)), .int (otherC s1 n fr), .ref (G.2.1 12)]) hC hK hR hl.1 (c_X8_sumTo l hG s1 t1 fr ) (call_b hC.ts TC_X8_sumTo TN_X8 TM_X8_71 hd_X8_sumTo ⟨Nat.le_of_ble_eq_true rfl, Nat.le_of_ble_eq_true rfl⟩) TI_X8_sumTo TS_X8_sumTo (ct_ways G _ _) rfl rfl rfl (Nat.le_of_ble_eq_true rfl) dX8_spreadOn_99 ⟨Nat.le_of_ble_eq_true rfl, Nat.le_of_ble_eq_true rfl⟩) hS (fun v_62 H locs w_63 hR hS => ?_)
                      refine lv_iload hC.x hC.b dX8_spreadOn_102 (lv_at hl 0 rfl) ?_
                      refine lv_iadd hC.x hC.b dX8_spreadOn_104 ?_
                      refine lv_iload_n hC.x hC.b dX8_spreadOn_105 rfl (lv_at hl 7 rfl) ?_
                      refine lv_iload_n hC.x hC.b dX8_spreadOn_106 rfl (lv_at hl 5 rfl) ?_
                      have av_64 : (nI n).toInt = (n : Int) := (nI_T n (by omega))
                      refine gov (runV (As := [.int (otherC s1 n fr), .int ((-1 : Int32) + (1 : Int32)), .int (v_62 + (toldC s1 n hr)), .int (nI n), .int fr]) (rest := []) hC hK hR hl.1 (c_X8_reach l hG s1 t1 (otherC s1 n fr) ((-1 : Int32) + (1 : Int32)) (v_62 + (toldC s1 n hr)) (nI n) fr (by first | omega | assumption)) (call_b hC.ts TC_X8_reach TN_X8 TM_X8_41 hd_X8_reach ⟨Nat.le_of_ble_eq_true rfl, Nat.le_of_ble_eq_true rfl⟩) TI_X8_reach TS_X8_reach (ct_ways G _ _) rfl rfl rfl (Nat.le_of_ble_eq_true rfl) dX8_spreadOn_107 ⟨Nat.le_of_ble_eq_true rfl, Nat.le_of_ble_eq_true rfl⟩) hS (fun s_67 t_68 H locs w_66 hR hS => ?_)
                      try dsimp only [po_X8_reach] at w_66
                      obtain ⟨f_69, f_70⟩ := w_66
                      refine lv_iinc (v := nI (n + 1)) (lv' := [(3, .int (nI (n + 1))), (7, .int (toldC s1 n hr)), (6, .int (toldC s1 n hr)), (5, .int (otherC s1 n fr)), (4, .ref (G.2.1 (104 + n))), (0, .ref (G.2.1 12)), (1, .int fr), (2, .int hr)]) hC.x hC.b dX8_spreadOn_110 hl (k := 7) rfl (nI_succ _).symm (by decide) rfl (fun ls hl => ?_)
                      refine lv_goto (tgt := 2) hC.x hC.b dX8_spreadOn_113 (by decide) ?_
                      exact ih_2 (n + 1) s_67 t_68 (by omega) (by first | omega | assumption) (by first | omega | assumption) (Fr.tr hi2_2 f_69) _ _ _ hR hS (lv_sub hl [5, 6, 7, 0] rfl)
                · skip
                  refine lv_goto (tgt := 110) hC.x hC.b dX8_spreadOn_65 (by decide) ?_
                  refine lv_iinc (v := nI (n + 1)) (lv' := [(3, .int (nI (n + 1))), (6, .int (toldC s1 n hr)), (5, .int (otherC s1 n fr)), (4, .ref (G.2.1 (104 + n))), (0, .ref (G.2.1 12)), (1, .int fr), (2, .int hr)]) hC.x hC.b dX8_spreadOn_110 hl (k := 6) rfl (nI_succ _).symm (by decide) rfl (fun ls hl => ?_)
                  refine lv_goto (tgt := 2) hC.x hC.b dX8_spreadOn_113 (by decide) ?_
                  exact ih_2 (n + 1) s1 t1 (by omega) (by first | omega | assumption) (by first | omega | assumption) hi2_2 _ _ _ hR hS (lv_sub hl [4, 5, 6, 0] rfl)
              · skip
                refine lv_iconst (v := (-1)) hC.x hC.b dX8_spreadOn_61 (by decide) ?_
                refine bi_eq (tgt := 68) (a := (-1)) (b := (-1)) hC.x hC.b rfl rfl dX8_spreadOn_62 (by decide) (fun _ => ?_) (fun c_71 => absurd c_71 (by decide))
                refine lv_aload hC.x hC.b dX8_spreadOn_68 (lv_at hl 2 rfl) ?_
                refine rget hC hK hR (ct_link hq_10 G _ _) rfl uin_X4 1 (by decide) TF_X8_68 rfl dX8_spreadOn_70 ?_
                have rd_72 : (s1 (104 + n) 1).toInt = (σ (104 + n) 1).toInt := congrArg Int32.toInt (show s1 (104 + n) 1 = σ (104 + n) 1 from congrFun (hi2_2 (104 + n) (by first | omega | (dsimp only; omega))) 1)
                refine lv_iload_n hC.x hC.b dX8_spreadOn_73 rfl (lv_at hl 4 rfl) ?_
                refine bi_ne (tgt := 82) (a := (s1 (104 + n) 1).toInt) (b := fr.toInt) hC.x hC.b rfl rfl dX8_spreadOn_74 (by decide) (fun c_73 => ?_) (fun c_73 => ?_)
                · skip
                  refine lv_iload hC.x hC.b dX8_spreadOn_82 (lv_at hl 0 rfl) ?_
                  refine lv_ineg hC.x hC.b dX8_spreadOn_84 ?_
                  refine lv_istore (lv' := [(7, .int (-(toldC s1 n hr))), (6, .int (toldC s1 n hr)), (5, .int (otherC s1 n fr)), (4, .ref (G.2.1 (104 + n))), (0, .ref (G.2.1 12)), (1, .int fr), (2, .int hr), (3, .int (nI n))]) hC.x hC.b dX8_spreadOn_85 hl (by decide) rfl (fun ls hl => ?_)
                  refine lv_aload_n hC.x hC.b dX8_spreadOn_87 rfl (lv_at hl 4 rfl) ?_
                  refine lv_iload hC.x hC.b dX8_spreadOn_88 (lv_at hl 2 rfl) ?_
                  refine lv_aload_n hC.x hC.b dX8_spreadOn_90 rfl (lv_at hl 4 rfl) ?_
                  refine lv_iload_n hC.x hC.b dX8_spreadOn_91 rfl (lv_at hl 5 rfl) ?_
                  refine goip (runV (As := [.int fr]) (rest := [.int (otherC s1 n fr), .ref (G.2.1 12)]) hC hK hR hl.1 (c_X8_lengthTo l hG s1 t1 fr fr.toInt.toNat rfl ) (call_b hC.ts TC_X8_lengthTo TN_X8 TM_X8_65 hd_X8_lengthTo ⟨Nat.le_of_ble_eq_true rfl, Nat.le_of_ble_eq_true rfl⟩) TI_X8_lengthTo TS_X8_lengthTo (ct_ways G _ _) rfl rfl rfl (Nat.le_of_ble_eq_true rfl) dX8_spreadOn_92 ⟨Nat.le_of_ble_eq_true rfl, Nat.le_of_ble_eq_true rfl⟩) hS (fun v_74 H locs w_75 hR hS => ?_)
                  rcases w_75 with ⟨rfl, f_76, f_77⟩ | ⟨rfl, f_78⟩
                  · skip
                    refine lv_iconst (v := 1) hC.x hC.b dX8_spreadOn_95 (by decide) ?_
                    refine lv_iadd hC.x hC.b dX8_spreadOn_96 ?_
                    refine lv_aload_n hC.x hC.b dX8_spreadOn_97 rfl (lv_at hl 4 rfl) ?_
                    refine lv_iload_n hC.x hC.b dX8_spreadOn_98 rfl (lv_at hl 5 rfl) ?_
                    refine goip (runV (As := [.int fr]) (rest := [.int ((s1 14 fr.toInt.toNat) + (1 : Int32)), .int (otherC s1 n fr), .ref (G.2.1 12)]) hC hK hR hl.1 (c_X8_sumTo l hG s1 t1 fr ) (call_b hC.ts TC_X8_sumTo TN_X8 TM_X8_71 hd_X8_sumTo ⟨Nat.le_of_ble_eq_true rfl, Nat.le_of_ble_eq_true rfl⟩) TI_X8_sumTo TS_X8_sumTo (ct_ways G _ _) rfl rfl rfl (Nat.le_of_ble_eq_true rfl) dX8_spreadOn_99 ⟨Nat.le_of_ble_eq_true rfl, Nat.le_of_ble_eq_true rfl⟩) hS (fun v_79 H locs w_80 hR hS => ?_)
                    refine lv_iload hC.x hC.b dX8_spreadOn_102 (lv_at hl 0 rfl) ?_
                    refine lv_iadd hC.x hC.b dX8_spreadOn_104 ?_
                    refine lv_iload_n hC.x hC.b dX8_spreadOn_105 rfl (lv_at hl 7 rfl) ?_
                    refine lv_iload_n hC.x hC.b dX8_spreadOn_106 rfl (lv_at hl 5 rfl) ?_
                    have av_81 : (nI n).toInt = (n : Int) := (nI_T n (by omega))
                    refine gov (runV (As := [.int (otherC s1 n fr), .int ((s1 14 fr.toInt.toNat) + (1 : Int32)), .int (v_79 + (-(toldC s1 n hr))), .int (nI n), .int fr]) (rest := []) hC hK hR hl.1 (c_X8_reach l hG s1 t1 (otherC s1 n fr) ((s1 14 fr.toInt.toNat) + (1 : Int32)) (v_79 + (-(toldC s1 n hr))) (nI n) fr (by first | omega | assumption)) (call_b hC.ts TC_X8_reach TN_X8 TM_X8_41 hd_X8_reach ⟨Nat.le_of_ble_eq_true rfl, Nat.le_of_ble_eq_true rfl⟩) TI_X8_reach TS_X8_reach (ct_ways G _ _) rfl rfl rfl (Nat.le_of_ble_eq_true rfl) dX8_spreadOn_107 ⟨Nat.le_of_ble_eq_true rfl, Nat.le_of_ble_eq_true rfl⟩) hS (fun s_84 t_85 H locs w_83 hR hS => ?_)
                    try dsimp only [po_X8_reach] at w_83
                    obtain ⟨f_86, f_87⟩ := w_83
                    refine lv_iinc (v := nI (n + 1)) (lv' := [(3, .int (nI (n + 1))), (7, .int (-(toldC s1 n hr))), (6, .int (toldC s1 n hr)), (5, .int (otherC s1 n fr)), (4, .ref (G.2.1 (104 + n))), (0, .ref (G.2.1 12)), (1, .int fr), (2, .int hr)]) hC.x hC.b dX8_spreadOn_110 hl (k := 7) rfl (nI_succ _).symm (by decide) rfl (fun ls hl => ?_)
                    refine lv_goto (tgt := 2) hC.x hC.b dX8_spreadOn_113 (by decide) ?_
                    exact ih_2 (n + 1) s_84 t_85 (by omega) (by first | omega | assumption) (by first | omega | assumption) (Fr.tr hi2_2 f_86) _ _ _ hR hS (lv_sub hl [5, 6, 7, 0] rfl)
                  · skip
                    refine lv_iconst (v := 1) hC.x hC.b dX8_spreadOn_95 (by decide) ?_
                    refine lv_iadd hC.x hC.b dX8_spreadOn_96 ?_
                    refine lv_aload_n hC.x hC.b dX8_spreadOn_97 rfl (lv_at hl 4 rfl) ?_
                    refine lv_iload_n hC.x hC.b dX8_spreadOn_98 rfl (lv_at hl 5 rfl) ?_
                    refine goip (runV (As := [.int fr]) (rest := [.int ((-1 : Int32) + (1 : Int32)), .int (otherC s1 n fr), .ref (G.2.1 12)]) hC hK hR hl.1 (c_X8_sumTo l hG s1 t1 fr ) (call_b hC.ts TC_X8_sumTo TN_X8 TM_X8_71 hd_X8_sumTo ⟨Nat.le_of_ble_eq_true rfl, Nat.le_of_ble_eq_true rfl⟩) TI_X8_sumTo TS_X8_sumTo (ct_ways G _ _) rfl rfl rfl (Nat.le_of_ble_eq_true rfl) dX8_spreadOn_99 ⟨Nat.le_of_ble_eq_true rfl, Nat.le_of_ble_eq_true rfl⟩) hS (fun v_88 H locs w_89 hR hS => ?_)
                    refine lv_iload hC.x hC.b dX8_spreadOn_102 (lv_at hl 0 rfl) ?_
                    refine lv_iadd hC.x hC.b dX8_spreadOn_104 ?_
                    refine lv_iload_n hC.x hC.b dX8_spreadOn_105 rfl (lv_at hl 7 rfl) ?_
                    refine lv_iload_n hC.x hC.b dX8_spreadOn_106 rfl (lv_at hl 5 rfl) ?_
                    have av_90 : (nI n).toInt = (n : Int) := (nI_T n (by omega))
                    refine gov (runV (As := [.int (otherC s1 n fr), .int ((-1 : Int32) + (1 : Int32)), .int (v_88 + (-(toldC s1 n hr))), .int (nI n), .int fr]) (rest := []) hC hK hR hl.1 (c_X8_reach l hG s1 t1 (otherC s1 n fr) ((-1 : Int32) + (1 : Int32)) (v_88 + (-(toldC s1 n hr))) (nI n) fr (by first | omega | assumption)) (call_b hC.ts TC_X8_reach TN_X8 TM_X8_41 hd_X8_reach ⟨Nat.le_of_ble_eq_true rfl, Nat.le_of_ble_eq_true rfl⟩) TI_X8_reach TS_X8_reach (ct_ways G _ _) rfl rfl rfl (Nat.le_of_ble_eq_true rfl) dX8_spreadOn_107 ⟨Nat.le_of_ble_eq_true rfl, Nat.le_of_ble_eq_true rfl⟩) hS (fun s_93 t_94 H locs w_92 hR hS => ?_)
                    try dsimp only [po_X8_reach] at w_92
                    obtain ⟨f_95, f_96⟩ := w_92
                    refine lv_iinc (v := nI (n + 1)) (lv' := [(3, .int (nI (n + 1))), (7, .int (-(toldC s1 n hr))), (6, .int (toldC s1 n hr)), (5, .int (otherC s1 n fr)), (4, .ref (G.2.1 (104 + n))), (0, .ref (G.2.1 12)), (1, .int fr), (2, .int hr)]) hC.x hC.b dX8_spreadOn_110 hl (k := 7) rfl (nI_succ _).symm (by decide) rfl (fun ls hl => ?_)
                    refine lv_goto (tgt := 2) hC.x hC.b dX8_spreadOn_113 (by decide) ?_
                    exact ih_2 (n + 1) s_93 t_94 (by omega) (by first | omega | assumption) (by first | omega | assumption) (Fr.tr hi2_2 f_95) _ _ _ hR hS (lv_sub hl [5, 6, 7, 0] rfl)
                · skip
                  refine lv_iload hC.x hC.b dX8_spreadOn_77 (lv_at hl 0 rfl) ?_
                  refine lv_goto (tgt := 85) hC.x hC.b dX8_spreadOn_79 (by decide) ?_
                  refine lv_istore (lv' := [(7, .int (toldC s1 n hr)), (6, .int (toldC s1 n hr)), (5, .int (otherC s1 n fr)), (4, .ref (G.2.1 (104 + n))), (0, .ref (G.2.1 12)), (1, .int fr), (2, .int hr), (3, .int (nI n))]) hC.x hC.b dX8_spreadOn_85 hl (by decide) rfl (fun ls hl => ?_)
                  refine lv_aload_n hC.x hC.b dX8_spreadOn_87 rfl (lv_at hl 4 rfl) ?_
                  refine lv_iload hC.x hC.b dX8_spreadOn_88 (lv_at hl 2 rfl) ?_
                  refine lv_aload_n hC.x hC.b dX8_spreadOn_90 rfl (lv_at hl 4 rfl) ?_
                  refine lv_iload_n hC.x hC.b dX8_spreadOn_91 rfl (lv_at hl 5 rfl) ?_
                  refine goip (runV (As := [.int fr]) (rest := [.int (otherC s1 n fr), .ref (G.2.1 12)]) hC hK hR hl.1 (c_X8_lengthTo l hG s1 t1 fr fr.toInt.toNat rfl ) (call_b hC.ts TC_X8_lengthTo TN_X8 TM_X8_65 hd_X8_lengthTo ⟨Nat.le_of_ble_eq_true rfl, Nat.le_of_ble_eq_true rfl⟩) TI_X8_lengthTo TS_X8_lengthTo (ct_ways G _ _) rfl rfl rfl (Nat.le_of_ble_eq_true rfl) dX8_spreadOn_92 ⟨Nat.le_of_ble_eq_true rfl, Nat.le_of_ble_eq_true rfl⟩) hS (fun v_97 H locs w_98 hR hS => ?_)
                  rcases w_98 with ⟨rfl, f_99, f_100⟩ | ⟨rfl, f_101⟩
                  · skip
                    refine lv_iconst (v := 1) hC.x hC.b dX8_spreadOn_95 (by decide) ?_
                    refine lv_iadd hC.x hC.b dX8_spreadOn_96 ?_
                    refine lv_aload_n hC.x hC.b dX8_spreadOn_97 rfl (lv_at hl 4 rfl) ?_
                    refine lv_iload_n hC.x hC.b dX8_spreadOn_98 rfl (lv_at hl 5 rfl) ?_
                    refine goip (runV (As := [.int fr]) (rest := [.int ((s1 14 fr.toInt.toNat) + (1 : Int32)), .int (otherC s1 n fr), .ref (G.2.1 12)]) hC hK hR hl.1 (c_X8_sumTo l hG s1 t1 fr ) (call_b hC.ts TC_X8_sumTo TN_X8 TM_X8_71 hd_X8_sumTo ⟨Nat.le_of_ble_eq_true rfl, Nat.le_of_ble_eq_true rfl⟩) TI_X8_sumTo TS_X8_sumTo (ct_ways G _ _) rfl rfl rfl (Nat.le_of_ble_eq_true rfl) dX8_spreadOn_99 ⟨Nat.le_of_ble_eq_true rfl, Nat.le_of_ble_eq_true rfl⟩) hS (fun v_102 H locs w_103 hR hS => ?_)
                    refine lv_iload hC.x hC.b dX8_spreadOn_102 (lv_at hl 0 rfl) ?_
                    refine lv_iadd hC.x hC.b dX8_spreadOn_104 ?_
                    refine lv_iload_n hC.x hC.b dX8_spreadOn_105 rfl (lv_at hl 7 rfl) ?_
                    refine lv_iload_n hC.x hC.b dX8_spreadOn_106 rfl (lv_at hl 5 rfl) ?_
                    have av_104 : (nI n).toInt = (n : Int) := (nI_T n (by omega))
                    refine gov (runV (As := [.int (otherC s1 n fr), .int ((s1 14 fr.toInt.toNat) + (1 : Int32)), .int (v_102 + (toldC s1 n hr)), .int (nI n), .int fr]) (rest := []) hC hK hR hl.1 (c_X8_reach l hG s1 t1 (otherC s1 n fr) ((s1 14 fr.toInt.toNat) + (1 : Int32)) (v_102 + (toldC s1 n hr)) (nI n) fr (by first | omega | assumption)) (call_b hC.ts TC_X8_reach TN_X8 TM_X8_41 hd_X8_reach ⟨Nat.le_of_ble_eq_true rfl, Nat.le_of_ble_eq_true rfl⟩) TI_X8_reach TS_X8_reach (ct_ways G _ _) rfl rfl rfl (Nat.le_of_ble_eq_true rfl) dX8_spreadOn_107 ⟨Nat.le_of_ble_eq_true rfl, Nat.le_of_ble_eq_true rfl⟩) hS (fun s_107 t_108 H locs w_106 hR hS => ?_)
                    try dsimp only [po_X8_reach] at w_106
                    obtain ⟨f_109, f_110⟩ := w_106
                    refine lv_iinc (v := nI (n + 1)) (lv' := [(3, .int (nI (n + 1))), (7, .int (toldC s1 n hr)), (6, .int (toldC s1 n hr)), (5, .int (otherC s1 n fr)), (4, .ref (G.2.1 (104 + n))), (0, .ref (G.2.1 12)), (1, .int fr), (2, .int hr)]) hC.x hC.b dX8_spreadOn_110 hl (k := 7) rfl (nI_succ _).symm (by decide) rfl (fun ls hl => ?_)
                    refine lv_goto (tgt := 2) hC.x hC.b dX8_spreadOn_113 (by decide) ?_
                    exact ih_2 (n + 1) s_107 t_108 (by omega) (by first | omega | assumption) (by first | omega | assumption) (Fr.tr hi2_2 f_109) _ _ _ hR hS (lv_sub hl [5, 6, 7, 0] rfl)
                  · skip
                    refine lv_iconst (v := 1) hC.x hC.b dX8_spreadOn_95 (by decide) ?_
                    refine lv_iadd hC.x hC.b dX8_spreadOn_96 ?_
                    refine lv_aload_n hC.x hC.b dX8_spreadOn_97 rfl (lv_at hl 4 rfl) ?_
                    refine lv_iload_n hC.x hC.b dX8_spreadOn_98 rfl (lv_at hl 5 rfl) ?_
                    refine goip (runV (As := [.int fr]) (rest := [.int ((-1 : Int32) + (1 : Int32)), .int (otherC s1 n fr), .ref (G.2.1 12)]) hC hK hR hl.1 (c_X8_sumTo l hG s1 t1 fr ) (call_b hC.ts TC_X8_sumTo TN_X8 TM_X8_71 hd_X8_sumTo ⟨Nat.le_of_ble_eq_true rfl, Nat.le_of_ble_eq_true rfl⟩) TI_X8_sumTo TS_X8_sumTo (ct_ways G _ _) rfl rfl rfl (Nat.le_of_ble_eq_true rfl) dX8_spreadOn_99 ⟨Nat.le_of_ble_eq_true rfl, Nat.le_of_ble_eq_true rfl⟩) hS (fun v_111 H locs w_112 hR hS => ?_)
                    refine lv_iload hC.x hC.b dX8_spreadOn_102 (lv_at hl 0 rfl) ?_
                    refine lv_iadd hC.x hC.b dX8_spreadOn_104 ?_
                    refine lv_iload_n hC.x hC.b dX8_spreadOn_105 rfl (lv_at hl 7 rfl) ?_
                    refine lv_iload_n hC.x hC.b dX8_spreadOn_106 rfl (lv_at hl 5 rfl) ?_
                    have av_113 : (nI n).toInt = (n : Int) := (nI_T n (by omega))
                    refine gov (runV (As := [.int (otherC s1 n fr), .int ((-1 : Int32) + (1 : Int32)), .int (v_111 + (toldC s1 n hr)), .int (nI n), .int fr]) (rest := []) hC hK hR hl.1 (c_X8_reach l hG s1 t1 (otherC s1 n fr) ((-1 : Int32) + (1 : Int32)) (v_111 + (toldC s1 n hr)) (nI n) fr (by first | omega | assumption)) (call_b hC.ts TC_X8_reach TN_X8 TM_X8_41 hd_X8_reach ⟨Nat.le_of_ble_eq_true rfl, Nat.le_of_ble_eq_true rfl⟩) TI_X8_reach TS_X8_reach (ct_ways G _ _) rfl rfl rfl (Nat.le_of_ble_eq_true rfl) dX8_spreadOn_107 ⟨Nat.le_of_ble_eq_true rfl, Nat.le_of_ble_eq_true rfl⟩) hS (fun s_116 t_117 H locs w_115 hR hS => ?_)
                    try dsimp only [po_X8_reach] at w_115
                    obtain ⟨f_118, f_119⟩ := w_115
                    refine lv_iinc (v := nI (n + 1)) (lv' := [(3, .int (nI (n + 1))), (7, .int (toldC s1 n hr)), (6, .int (toldC s1 n hr)), (5, .int (otherC s1 n fr)), (4, .ref (G.2.1 (104 + n))), (0, .ref (G.2.1 12)), (1, .int fr), (2, .int hr)]) hC.x hC.b dX8_spreadOn_110 hl (k := 7) rfl (nI_succ _).symm (by decide) rfl (fun ls hl => ?_)
                    refine lv_goto (tgt := 2) hC.x hC.b dX8_spreadOn_113 (by decide) ?_
                    exact ih_2 (n + 1) s_116 t_117 (by omega) (by first | omega | assumption) (by first | omega | assumption) (Fr.tr hi2_2 f_118) _ _ _ hR hS (lv_sub hl [5, 6, 7, 0] rfl)
  exact L_2 _ 0 σ τ (Nat.lt_succ_self _) (by first | omega | assumption) (by first | omega | assumption) Fr.rf _ _ _ hR hS (lv_sub hl [1, 2, 3, 0] rfl)

abbrev po_X8_spread (σ : SI) (τ : SL) (fr : Int32) (hr : Int32) : SI × SL → Prop := fun u => ((Fr (fun k => 12 ≤ k ∧ k ≤ 17) σ u.1))
set_option maxRecDepth 100000 in
set_option maxHeartbeats 4000000 in
theorem c_X8_spread (l : Launch) {G : Gx} {A : Nat → Prop} (hG : GOk G A) (σ : SI) (τ : SL) (fr : Int32) (hr : Int32) : MV l G A 3 yX8_spread cX8_spread 4 none [.ref (G.2.1 12), .int fr, .int hr] (σ, τ) (po_X8_spread σ τ fr hr) := by
  refine met_of (own := RX8) (by decide +kernel) rfl [(0, .ref (G.2.1 12)), (1, .int fr), (2, .int hr)] rfl (Nat.le_of_ble_eq_true rfl) ?_
  intro p e s m args below meth c ls hC hK hR hl
  have hS : va_S A s.heap s.heap [] := va_S.rf
  refine lv_aload_n hC.x hC.b dX8_spread_0 rfl (lv_at hl 0 rfl) ?_
  refine rget hC hK hR (ct_ways G _ _) rfl uin_X8 2 (by decide) TF_X8_15 rfl dX8_spread_1 ?_
  refine lv_iconst (v := (-1)) hC.x hC.b dX8_spread_4 (by decide) ?_
  have av_1 : (-1 : Int32).toInt = -1 := by decide
  refine gov (runS (As := [.ref (G.2.1 14), .int (-1 : Int32)]) (rest := []) hC hK hR hl.1 (c_J7_fill_53178 l hG σ τ (-1 : Int32) ) (call_b hC.ts TC_J7_fill_53178 TN_J7 TM_X8_35 hd_J7_fill_53178 ⟨Nat.le_of_ble_eq_true rfl, Nat.le_of_ble_eq_true rfl⟩) TT_J7_fill_53178 rfl rfl (Nat.le_of_ble_eq_true rfl) dX8_spread_5 ⟨Nat.le_of_ble_eq_true rfl, Nat.le_of_ble_eq_true rfl⟩) hS (fun s_4 t_5 H locs w_3 hR hS => ?_)
  try dsimp only [po_J7_fill_53178] at w_3
  obtain ⟨et_6, f_7⟩ := w_3
  rw [et_6] at hR
  refine lv_aload_n hC.x hC.b dX8_spread_8 rfl (lv_at hl 0 rfl) ?_
  refine lv_iconst (v := 0) hC.x hC.b dX8_spread_9 (by decide) ?_
  refine rputi hC hK hG hR hS (ct_ways G _ _) rfl uin_X8 tyX8 tyX8_ok nmX8 6 (by decide) TF_X8_27 rfl (Or.inl rfl) (Nat.le_of_ble_eq_true rfl) rfl (ct_ways G _ _) dX8_spread_10 (fun s_9 es_8 H locs hR hS => ?_)
  refine lv_aload_n hC.x hC.b dX8_spread_13 rfl (lv_at hl 0 rfl) ?_
  refine lv_iload_n hC.x hC.b dX8_spread_14 rfl (lv_at hl 1 rfl) ?_
  refine lv_iconst (v := 0) hC.x hC.b dX8_spread_15 (by decide) ?_
  refine lv_iconst (v := 0) hC.x hC.b dX8_spread_16 (by decide) ?_
  refine lv_iconst (v := (-1)) hC.x hC.b dX8_spread_17 (by decide) ?_
  refine lv_iconst (v := (-1)) hC.x hC.b dX8_spread_18 (by decide) ?_
  have av_10 : (0 : Int32).toInt = 0 := by decide
  have av_11 : (0 : Int32).toInt = 0 := by decide
  have av_12 : (-1 : Int32).toInt = -1 := by decide
  have av_13 : (-1 : Int32).toInt = -1 := by decide
  have rd_14 : (s_9 12 6).toInt = 0 := (congrArg Int32.toInt (show s_9 12 6 = (0 : Int32) from (by rw [es_8]; exact up2_s))).trans (by decide)
  refine gov (runV (As := [.int fr, .int (0 : Int32), .int (0 : Int32), .int (-1 : Int32), .int (-1 : Int32)]) (rest := []) hC hK hR hl.1 (c_X8_reach l hG s_9 τ fr (0 : Int32) (0 : Int32) (-1 : Int32) (-1 : Int32) (by first | omega | assumption)) (call_b hC.ts TC_X8_reach TN_X8 TM_X8_41 hd_X8_reach ⟨Nat.le_of_ble_eq_true rfl, Nat.le_of_ble_eq_true rfl⟩) TI_X8_reach TS_X8_reach (ct_ways G _ _) rfl rfl rfl (Nat.le_of_ble_eq_true rfl) dX8_spread_19 ⟨Nat.le_of_ble_eq_true rfl, Nat.le_of_ble_eq_true rfl⟩) hS (fun s_17 t_18 H locs w_16 hR hS => ?_)
  try dsimp only [po_X8_reach] at w_16
  obtain ⟨f_19, f_20⟩ := w_16
  refine lv_iconst (v := 0) hC.x hC.b dX8_spread_22 (by decide) ?_
  refine lv_istore_n (lv' := [(3, .int (0 : Int32)), (0, .ref (G.2.1 12)), (1, .int fr), (2, .int hr)]) hC.x hC.b dX8_spread_23 rfl hl (by decide) rfl (fun ls hl => ?_)
  have L_24 : ∀ (F : Nat) (n : Nat) (s1 : SI) (t1 : SL), (24 - n) < F → (n ≤ 24) → (0 ≤ (s1 12 6).toInt) → (Fr (fun k => 12 ≤ k ∧ k ≤ 17) σ s1) → ∀ (H : Heap) (locs : List Loc) (ls : Array Slot), RepH G s1 t1 H → va_S A s.heap H locs → lv_has ls 4 [(0, .ref (G.2.1 12)), (1, .int fr), (2, .int hr), (3, .int (nI n))] → W p l e (rmD 3) s m args below meth c H locs 0 0 (MQ below (va_Qv (po_X8_spread σ τ fr hr) (BU G) A) args s 0 0 A) (F0 m 24 ls []) := by
    intro F
    induction F with
    | zero => intro n s1 t1 hm; exact absurd hm (Nat.not_lt_zero _)
    | succ F ih_24 =>
      intro n s1 t1 hm_24 hi0_24 hi1_24 hi2_24 H locs ls hR hS hl
      refine lv_iload_n hC.x hC.b dX8_spread_24 rfl (lv_at hl 3 rfl) ?_
      refine lv_aload_n hC.x hC.b dX8_spread_25 rfl (lv_at hl 0 rfl) ?_
      refine rget hC hK hR (ct_ways G _ _) rfl uin_X8 6 (by decide) TF_X8_27 rfl dX8_spread_26 ?_
      refine bi_ge (tgt := 58) (a := (n : Int)) (b := (s1 12 6).toInt) hC.x hC.b (nI_T n (by omega)) rfl dX8_spread_29 (by decide) (fun c_21 => ?_) (fun c_21 => ?_)
      · skip
        exact retv hC hK hR hS (by exact hi2_24) dX8_spread_58
      · skip
        refine lv_iload_n hC.x hC.b dX8_spread_32 rfl (lv_at hl 3 rfl) ?_
        refine lv_aload_n hC.x hC.b dX8_spread_33 rfl (lv_at hl 0 rfl) ?_
        refine rget hC hK hR (ct_ways G _ _) rfl uin_X8 1 (by decide) TF_X8_9 rfl dX8_spread_34 ?_
        refine ralen (t := 0) hC hK hR (by decide) (ct_queue G _ _) (v := 24) rfl dX8_spread_37 ?_
        refine bi_ge (tgt := 58) (a := (n : Int)) (b := 24) hC.x hC.b (nI_T n (by omega)) rfl dX8_spread_38 (by decide) (fun c_22 => ?_) (fun c_22 => ?_)
        · skip
          exact retv hC hK hR hS (by exact hi2_24) dX8_spread_58
        · skip
          refine lv_aload_n hC.x hC.b dX8_spread_41 rfl (lv_at hl 0 rfl) ?_
          refine lv_aload_n hC.x hC.b dX8_spread_42 rfl (lv_at hl 0 rfl) ?_
          refine rget hC hK hR (ct_ways G _ _) rfl uin_X8 1 (by decide) TF_X8_9 rfl dX8_spread_43 ?_
          refine lv_iload_n hC.x hC.b dX8_spread_46 rfl (lv_at hl 3 rfl) ?_
          refine ald hC hK hR (ct_queue G _ _) (nI_T n (by omega)) (by omega) (by omega) (Int.toNat_natCast _) dX8_spread_47 ?_
          refine lv_iload_n hC.x hC.b dX8_spread_48 rfl (lv_at hl 2 rfl) ?_
          refine gov (runV (As := [.int (s1 13 n), .int hr]) (rest := []) hC hK hR hl.1 (c_X8_spreadOn l hG s1 t1 (s1 13 n) hr (by first | omega | assumption)) (call_b hC.ts TC_X8_spreadOn TN_X8 TM_X8_45 hd_X8_spreadOn ⟨Nat.le_of_ble_eq_true rfl, Nat.le_of_ble_eq_true rfl⟩) TI_X8_spreadOn TS_X8_spreadOn (ct_ways G _ _) rfl rfl rfl (Nat.le_of_ble_eq_true rfl) dX8_spread_49 ⟨Nat.le_of_ble_eq_true rfl, Nat.le_of_ble_eq_true rfl⟩) hS (fun s_25 t_26 H locs w_24 hR hS => ?_)
          try dsimp only [po_X8_spreadOn] at w_24
          obtain ⟨f_27, f_28⟩ := w_24
          refine lv_iinc (v := nI (n + 1)) (lv' := [(3, .int (nI (n + 1))), (0, .ref (G.2.1 12)), (1, .int fr), (2, .int hr)]) hC.x hC.b dX8_spread_52 hl (k := 3) rfl (nI_succ _).symm (by decide) rfl (fun ls hl => ?_)
          refine lv_goto (tgt := 24) hC.x hC.b dX8_spread_55 (by decide) ?_
          exact ih_24 (n + 1) s_25 t_26 (by omega) (by first | omega | assumption) (by first | omega | assumption) (Fr.tr hi2_24 f_27) _ _ _ hR hS (lv_sub hl [1, 2, 3, 0] rfl)
  exact L_24 _ 0 s_17 t_18 (Nat.lt_succ_self _) (by first | omega | assumption) (by first | omega | assumption) (Fr.tr (by rw [es_8]; exact Fr.up ((Fr.tr Fr.rf f_7)) (by first | omega | (dsimp only; omega))) f_19) _ _ _ hR hS (lv_sub hl [1, 2, 3, 0] rfl)

abbrev po_X8_writeWay (σ : SI) (τ : SL) (pl : Int32) (na : Int32) (ta : Int32) : SI × SL → Prop := fun u => ((u.2 = τ) ∧ (Fr (fun k => k = 23) σ u.1))
set_option maxRecDepth 100000 in
set_option maxHeartbeats 4000000 in
theorem c_X8_writeWay (l : Launch) {G : Gx} {A : Nat → Prop} (hG : GOk G A) (σ : SI) (τ : SL) (pl : Int32) (na : Int32) (ta : Int32) : MV l G A 0 yX8_writeWay cX8_writeWay 8 none [.ref (G.2.1 12), .int pl, .int na, .int ta, .ref (G.2.1 23)] (σ, τ) (po_X8_writeWay σ τ pl na ta) := by
  refine met_of (own := RX8) (by decide +kernel) rfl [(0, .ref (G.2.1 12)), (1, .int pl), (2, .int na), (3, .int ta), (4, .ref (G.2.1 23))] rfl (Nat.le_of_ble_eq_true rfl) ?_
  intro p e s m args below meth c ls hC hK hR hl
  have hS : va_S A s.heap s.heap [] := va_S.rf
  refine lv_iload_n hC.x hC.b dX8_writeWay_0 rfl (lv_at hl 1 rfl) ?_
  refine lv_istore (lv' := [(5, .int pl), (0, .ref (G.2.1 12)), (1, .int pl), (2, .int na), (3, .int ta), (4, .ref (G.2.1 23))]) hC.x hC.b dX8_writeWay_1 hl (by decide) rfl (fun ls hl => ?_)
  refine lv_iconst (v := 0) hC.x hC.b dX8_writeWay_3 (by decide) ?_
  refine lv_istore (lv' := [(6, .int (0 : Int32)), (5, .int pl), (0, .ref (G.2.1 12)), (1, .int pl), (2, .int na), (3, .int ta), (4, .ref (G.2.1 23))]) hC.x hC.b dX8_writeWay_4 hl (by decide) rfl (fun ls hl => ?_)
  have L_6 : ∀ (F : Nat) (n : Nat) (x5 : Int32) (s1 : SI), ((na.toInt - n).toNat) < F → ((n : Int) ≤ 2147483647) → (Fr (fun k => k = 23) σ s1) → ∀ (H : Heap) (locs : List Loc) (ls : Array Slot), RepH G s1 τ H → va_S A s.heap H locs → lv_has ls 8 [(0, .ref (G.2.1 12)), (1, .int pl), (2, .int na), (3, .int ta), (4, .ref (G.2.1 23)), (5, .int x5), (6, .int (nI n))] → W p l e (rmD 0) s m args below meth c H locs 0 0 (MQ below (va_Qv (po_X8_writeWay σ τ pl na ta) (BU G) A) args s 0 0 A) (F0 m 6 ls []) := by
    intro F
    induction F with
    | zero => intro n x5 s1 hm; exact absurd hm (Nat.not_lt_zero _)
    | succ F ih_6 =>
      intro n x5 s1 hm_6 hi0_6 hi1_6 H locs ls hR hS hl
      have hmx := i32_hi na
      refine lv_iload hC.x hC.b dX8_writeWay_6 (lv_at hl 6 rfl) ?_
      refine lv_iload_n hC.x hC.b dX8_writeWay_8 rfl (lv_at hl 2 rfl) ?_
      refine bi_ge (tgt := 86) (a := (n : Int)) (b := na.toInt) hC.x hC.b (nI_T n (by omega)) rfl dX8_writeWay_9 (by decide) (fun c_1 => ?_) (fun c_1 => ?_)
      · skip
        exact retv hC hK hR hS (⟨by rfl, by assumption⟩) dX8_writeWay_86
      · skip
        refine lv_iload hC.x hC.b dX8_writeWay_12 (lv_at hl 5 rfl) ?_
        refine bz_lt (tgt := 86) (a := x5.toInt) (b := 0) hC.x hC.b rfl rfl dX8_writeWay_14 (by decide) (fun c_2 => ?_) (fun c_2 => ?_)
        · skip
          exact retv hC hK hR hS (⟨by rfl, by assumption⟩) dX8_writeWay_86
        · skip
          refine lv_iload hC.x hC.b dX8_writeWay_17 (lv_at hl 5 rfl) ?_
          refine lv_bipush (v := 24) hC.x hC.b dX8_writeWay_19 (by decide) ?_
          refine bi_ge (tgt := 86) (a := x5.toInt) (b := 24) hC.x hC.b rfl rfl dX8_writeWay_21 (by decide) (fun c_3 => ?_) (fun c_3 => ?_)
          · skip
            exact retv hC hK hR hS (⟨by rfl, by assumption⟩) dX8_writeWay_86
          · skip
            refine lv_iload_n hC.x hC.b dX8_writeWay_24 rfl (lv_at hl 3 rfl) ?_
            refine bz_eq (tgt := 33) (a := ta.toInt) (b := 0) hC.x hC.b rfl rfl dX8_writeWay_25 (by decide) (fun c_4 => ?_) (fun c_4 => ?_)
            · skip
              refine lv_iload_n hC.x hC.b dX8_writeWay_33 rfl (lv_at hl 2 rfl) ?_
              refine lv_iconst (v := 1) hC.x hC.b dX8_writeWay_34 (by decide) ?_
              refine lv_isub hC.x hC.b dX8_writeWay_35 ?_
              refine lv_iload hC.x hC.b dX8_writeWay_36 (lv_at hl 6 rfl) ?_
              refine lv_isub hC.x hC.b dX8_writeWay_38 ?_
              refine lv_topi (fun x_5 ex_6 => ?_)
              refine lv_istore (lv' := [(7, .int x_5), (0, .ref (G.2.1 12)), (1, .int pl), (2, .int na), (3, .int ta), (4, .ref (G.2.1 23)), (5, .int x5), (6, .int (nI n))]) hC.x hC.b dX8_writeWay_39 hl (by decide) rfl (fun ls hl => ?_)
              refine lv_aload hC.x hC.b dX8_writeWay_41 (lv_at hl 5 rfl) ?_
              refine lv_ifnull hC.x hC.b dX8_writeWay_43 ?_
              refine lv_iload hC.x hC.b dX8_writeWay_46 (lv_at hl 0 rfl) ?_
              refine bz_lt (tgt := 71) (a := x_5.toInt) (b := 0) hC.x hC.b rfl rfl dX8_writeWay_48 (by decide) (fun c_7 => ?_) (fun c_7 => ?_)
              · skip
                refine lv_aload_n hC.x hC.b dX8_writeWay_71 rfl (lv_at hl 1 rfl) ?_
                refine rget hC hK hR (ct_ways G _ _) rfl uin_X8 5 (by decide) TF_X8_24 rfl dX8_writeWay_72 ?_
                refine lv_iload hC.x hC.b dX8_writeWay_75 (lv_at hl 6 rfl) ?_
                refine ald hC hK hR (ct_ahead G _ _) rfl (by omega) (by omega) rfl dX8_writeWay_77 ?_
                refine lv_istore (lv' := [(5, .int (s1 17 x5.toInt.toNat)), (7, .int x_5), (0, .ref (G.2.1 12)), (1, .int pl), (2, .int na), (3, .int ta), (4, .ref (G.2.1 23)), (6, .int (nI n))]) hC.x hC.b dX8_writeWay_78 hl (by decide) rfl (fun ls hl => ?_)
                refine lv_iinc (v := nI (n + 1)) (lv' := [(6, .int (nI (n + 1))), (5, .int (s1 17 x5.toInt.toNat)), (7, .int x_5), (0, .ref (G.2.1 12)), (1, .int pl), (2, .int na), (3, .int ta), (4, .ref (G.2.1 23))]) hC.x hC.b dX8_writeWay_80 hl (k := 7) rfl (nI_succ _).symm (by decide) rfl (fun ls hl => ?_)
                refine lv_goto (tgt := 6) hC.x hC.b dX8_writeWay_83 (by decide) ?_
                exact ih_6 (n + 1) (s1 17 x5.toInt.toNat) s1 (by omega) (by first | omega | assumption) (by skip; first | assumption | exact Fr.up (by assumption) rfl) _ _ _ hR hS (lv_sub hl [3, 4, 5, 6, 7, 1, 0] rfl)
              · skip
                refine lv_iload hC.x hC.b dX8_writeWay_51 (lv_at hl 0 rfl) ?_
                refine lv_aload hC.x hC.b dX8_writeWay_53 (lv_at hl 5 rfl) ?_
                refine ralen (t := 0) hC hK hR (by decide) (ct_wayTold G _ _) (v := 24) rfl dX8_writeWay_55 ?_
                refine bi_ge (tgt := 71) (a := x_5.toInt) (b := 24) hC.x hC.b rfl rfl dX8_writeWay_56 (by decide) (fun c_8 => ?_) (fun c_8 => ?_)
                · skip
                  refine lv_aload_n hC.x hC.b dX8_writeWay_71 rfl (lv_at hl 1 rfl) ?_
                  refine rget hC hK hR (ct_ways G _ _) rfl uin_X8 5 (by decide) TF_X8_24 rfl dX8_writeWay_72 ?_
                  refine lv_iload hC.x hC.b dX8_writeWay_75 (lv_at hl 6 rfl) ?_
                  refine ald hC hK hR (ct_ahead G _ _) rfl (by omega) (by omega) rfl dX8_writeWay_77 ?_
                  refine lv_istore (lv' := [(5, .int (s1 17 x5.toInt.toNat)), (7, .int x_5), (0, .ref (G.2.1 12)), (1, .int pl), (2, .int na), (3, .int ta), (4, .ref (G.2.1 23)), (6, .int (nI n))]) hC.x hC.b dX8_writeWay_78 hl (by decide) rfl (fun ls hl => ?_)
                  refine lv_iinc (v := nI (n + 1)) (lv' := [(6, .int (nI (n + 1))), (5, .int (s1 17 x5.toInt.toNat)), (7, .int x_5), (0, .ref (G.2.1 12)), (1, .int pl), (2, .int na), (3, .int ta), (4, .ref (G.2.1 23))]) hC.x hC.b dX8_writeWay_80 hl (k := 7) rfl (nI_succ _).symm (by decide) rfl (fun ls hl => ?_)
                  refine lv_goto (tgt := 6) hC.x hC.b dX8_writeWay_83 (by decide) ?_
                  exact ih_6 (n + 1) (s1 17 x5.toInt.toNat) s1 (by omega) (by first | omega | assumption) (by skip; first | assumption | exact Fr.up (by assumption) rfl) _ _ _ hR hS (lv_sub hl [3, 4, 5, 6, 7, 1, 0] rfl)
                · skip
                  refine lv_aload hC.x hC.b dX8_writeWay_59 (lv_at hl 5 rfl) ?_
                  refine lv_iload hC.x hC.b dX8_writeWay_61 (lv_at hl 0 rfl) ?_
                  refine lv_aload_n hC.x hC.b dX8_writeWay_63 rfl (lv_at hl 1 rfl) ?_
                  refine rget hC hK hR (ct_ways G _ _) rfl uin_X8 4 (by decide) TF_X8_21 rfl dX8_writeWay_64 ?_
                  refine lv_iload hC.x hC.b dX8_writeWay_67 (lv_at hl 6 rfl) ?_
                  refine ald hC hK hR (ct_lastLinks G _ _) rfl (by omega) (by omega) rfl dX8_writeWay_69 ?_
                  refine ast hC hK hG hR hS (fun _ => ct_wayTold G _ _) rfl (by omega) (by omega) rfl dX8_writeWay_70 (fun s_9 es_10 H locs hR hS => ?_)
                  refine lv_aload_n hC.x hC.b dX8_writeWay_71 rfl (lv_at hl 1 rfl) ?_
                  refine rget hC hK hR (ct_ways G _ _) rfl uin_X8 5 (by decide) TF_X8_24 rfl dX8_writeWay_72 ?_
                  refine lv_iload hC.x hC.b dX8_writeWay_75 (lv_at hl 6 rfl) ?_
                  refine ald hC hK hR (ct_ahead G _ _) rfl (by omega) (by omega) rfl dX8_writeWay_77 ?_
                  have rd_11 : (s_9 17 x5.toInt.toNat).toInt = (s1 17 x5.toInt.toNat).toInt := congrArg Int32.toInt (show s_9 17 x5.toInt.toNat = s1 17 x5.toInt.toNat from (by rw [es_10]; exact up2_o (by omega)))
                  refine lv_topi (fun x_12 ex_13 => ?_)
                  refine lv_istore (lv' := [(5, .int x_12), (7, .int x_5), (0, .ref (G.2.1 12)), (1, .int pl), (2, .int na), (3, .int ta), (4, .ref (G.2.1 23)), (6, .int (nI n))]) hC.x hC.b dX8_writeWay_78 hl (by decide) rfl (fun ls hl => ?_)
                  refine lv_iinc (v := nI (n + 1)) (lv' := [(6, .int (nI (n + 1))), (5, .int x_12), (7, .int x_5), (0, .ref (G.2.1 12)), (1, .int pl), (2, .int na), (3, .int ta), (4, .ref (G.2.1 23))]) hC.x hC.b dX8_writeWay_80 hl (k := 7) rfl (nI_succ _).symm (by decide) rfl (fun ls hl => ?_)
                  refine lv_goto (tgt := 6) hC.x hC.b dX8_writeWay_83 (by decide) ?_
                  exact ih_6 (n + 1) x_12 s_9 (by omega) (by first | omega | assumption) (by subst es_10; first | assumption | exact Fr.up (by assumption) rfl) _ _ _ hR hS (lv_sub hl [3, 4, 5, 6, 7, 1, 0] rfl)
            · skip
              refine lv_iload hC.x hC.b dX8_writeWay_28 (lv_at hl 6 rfl) ?_
              refine lv_goto (tgt := 39) hC.x hC.b dX8_writeWay_30 (by decide) ?_
              refine lv_istore (lv' := [(7, .int (nI n)), (0, .ref (G.2.1 12)), (1, .int pl), (2, .int na), (3, .int ta), (4, .ref (G.2.1 23)), (5, .int x5), (6, .int (nI n))]) hC.x hC.b dX8_writeWay_39 hl (by decide) rfl (fun ls hl => ?_)
              refine lv_aload hC.x hC.b dX8_writeWay_41 (lv_at hl 5 rfl) ?_
              refine lv_ifnull hC.x hC.b dX8_writeWay_43 ?_
              refine lv_iload hC.x hC.b dX8_writeWay_46 (lv_at hl 0 rfl) ?_
              refine bz_lt (tgt := 71) (a := (n : Int)) (b := 0) hC.x hC.b (nI_T n (by omega)) rfl dX8_writeWay_48 (by decide) (fun c_14 => ?_) (fun c_14 => ?_)
              · skip
                refine lv_aload_n hC.x hC.b dX8_writeWay_71 rfl (lv_at hl 1 rfl) ?_
                refine rget hC hK hR (ct_ways G _ _) rfl uin_X8 5 (by decide) TF_X8_24 rfl dX8_writeWay_72 ?_
                refine lv_iload hC.x hC.b dX8_writeWay_75 (lv_at hl 6 rfl) ?_
                refine ald hC hK hR (ct_ahead G _ _) rfl (by omega) (by omega) rfl dX8_writeWay_77 ?_
                refine lv_istore (lv' := [(5, .int (s1 17 x5.toInt.toNat)), (7, .int (nI n)), (0, .ref (G.2.1 12)), (1, .int pl), (2, .int na), (3, .int ta), (4, .ref (G.2.1 23)), (6, .int (nI n))]) hC.x hC.b dX8_writeWay_78 hl (by decide) rfl (fun ls hl => ?_)
                refine lv_iinc (v := nI (n + 1)) (lv' := [(6, .int (nI (n + 1))), (5, .int (s1 17 x5.toInt.toNat)), (7, .int (nI n)), (0, .ref (G.2.1 12)), (1, .int pl), (2, .int na), (3, .int ta), (4, .ref (G.2.1 23))]) hC.x hC.b dX8_writeWay_80 hl (k := 7) rfl (nI_succ _).symm (by decide) rfl (fun ls hl => ?_)
                refine lv_goto (tgt := 6) hC.x hC.b dX8_writeWay_83 (by decide) ?_
                exact ih_6 (n + 1) (s1 17 x5.toInt.toNat) s1 (by omega) (by first | omega | assumption) (by skip; first | assumption | exact Fr.up (by assumption) rfl) _ _ _ hR hS (lv_sub hl [3, 4, 5, 6, 7, 1, 0] rfl)
              · skip
                refine lv_iload hC.x hC.b dX8_writeWay_51 (lv_at hl 0 rfl) ?_
                refine lv_aload hC.x hC.b dX8_writeWay_53 (lv_at hl 5 rfl) ?_
                refine ralen (t := 0) hC hK hR (by decide) (ct_wayTold G _ _) (v := 24) rfl dX8_writeWay_55 ?_
                refine bi_ge (tgt := 71) (a := (n : Int)) (b := 24) hC.x hC.b (nI_T n (by omega)) rfl dX8_writeWay_56 (by decide) (fun c_15 => ?_) (fun c_15 => ?_)
                · skip
                  refine lv_aload_n hC.x hC.b dX8_writeWay_71 rfl (lv_at hl 1 rfl) ?_
                  refine rget hC hK hR (ct_ways G _ _) rfl uin_X8 5 (by decide) TF_X8_24 rfl dX8_writeWay_72 ?_
                  refine lv_iload hC.x hC.b dX8_writeWay_75 (lv_at hl 6 rfl) ?_
                  refine ald hC hK hR (ct_ahead G _ _) rfl (by omega) (by omega) rfl dX8_writeWay_77 ?_
                  refine lv_istore (lv' := [(5, .int (s1 17 x5.toInt.toNat)), (7, .int (nI n)), (0, .ref (G.2.1 12)), (1, .int pl), (2, .int na), (3, .int ta), (4, .ref (G.2.1 23)), (6, .int (nI n))]) hC.x hC.b dX8_writeWay_78 hl (by decide) rfl (fun ls hl => ?_)
                  refine lv_iinc (v := nI (n + 1)) (lv' := [(6, .int (nI (n + 1))), (5, .int (s1 17 x5.toInt.toNat)), (7, .int (nI n)), (0, .ref (G.2.1 12)), (1, .int pl), (2, .int na), (3, .int ta), (4, .ref (G.2.1 23))]) hC.x hC.b dX8_writeWay_80 hl (k := 7) rfl (nI_succ _).symm (by decide) rfl (fun ls hl => ?_)
                  refine lv_goto (tgt := 6) hC.x hC.b dX8_writeWay_83 (by decide) ?_
                  exact ih_6 (n + 1) (s1 17 x5.toInt.toNat) s1 (by omega) (by first | omega | assumption) (by skip; first | assumption | exact Fr.up (by assumption) rfl) _ _ _ hR hS (lv_sub hl [3, 4, 5, 6, 7, 1, 0] rfl)
                · skip
                  refine lv_aload hC.x hC.b dX8_writeWay_59 (lv_at hl 5 rfl) ?_
                  refine lv_iload hC.x hC.b dX8_writeWay_61 (lv_at hl 0 rfl) ?_
                  refine lv_aload_n hC.x hC.b dX8_writeWay_63 rfl (lv_at hl 1 rfl) ?_
                  refine rget hC hK hR (ct_ways G _ _) rfl uin_X8 4 (by decide) TF_X8_21 rfl dX8_writeWay_64 ?_
                  refine lv_iload hC.x hC.b dX8_writeWay_67 (lv_at hl 6 rfl) ?_
                  refine ald hC hK hR (ct_lastLinks G _ _) rfl (by omega) (by omega) rfl dX8_writeWay_69 ?_
                  refine ast hC hK hG hR hS (fun _ => ct_wayTold G _ _) (nI_T n (by omega)) (by omega) (by omega) (Int.toNat_natCast _) dX8_writeWay_70 (fun s_16 es_17 H locs hR hS => ?_)
                  refine lv_aload_n hC.x hC.b dX8_writeWay_71 rfl (lv_at hl 1 rfl) ?_
                  refine rget hC hK hR (ct_ways G _ _) rfl uin_X8 5 (by decide) TF_X8_24 rfl dX8_writeWay_72 ?_
                  refine lv_iload hC.x hC.b dX8_writeWay_75 (lv_at hl 6 rfl) ?_
                  refine ald hC hK hR (ct_ahead G _ _) rfl (by omega) (by omega) rfl dX8_writeWay_77 ?_
                  have rd_18 : (s_16 17 x5.toInt.toNat).toInt = (s1 17 x5.toInt.toNat).toInt := congrArg Int32.toInt (show s_16 17 x5.toInt.toNat = s1 17 x5.toInt.toNat from (by rw [es_17]; exact up2_o (by omega)))
                  refine lv_topi (fun x_19 ex_20 => ?_)
                  refine lv_istore (lv' := [(5, .int x_19), (7, .int (nI n)), (0, .ref (G.2.1 12)), (1, .int pl), (2, .int na), (3, .int ta), (4, .ref (G.2.1 23)), (6, .int (nI n))]) hC.x hC.b dX8_writeWay_78 hl (by decide) rfl (fun ls hl => ?_)
                  refine lv_iinc (v := nI (n + 1)) (lv' := [(6, .int (nI (n + 1))), (5, .int x_19), (7, .int (nI n)), (0, .ref (G.2.1 12)), (1, .int pl), (2, .int na), (3, .int ta), (4, .ref (G.2.1 23))]) hC.x hC.b dX8_writeWay_80 hl (k := 7) rfl (nI_succ _).symm (by decide) rfl (fun ls hl => ?_)
                  refine lv_goto (tgt := 6) hC.x hC.b dX8_writeWay_83 (by decide) ?_
                  exact ih_6 (n + 1) x_19 s_16 (by omega) (by first | omega | assumption) (by subst es_17; first | assumption | exact Fr.up (by assumption) rfl) _ _ _ hR hS (lv_sub hl [3, 4, 5, 6, 7, 1, 0] rfl)
  exact L_6 _ 0 pl σ (Nat.lt_succ_self _) (by first | omega | assumption) (by exact Fr.rf) _ _ _ hR hS (lv_sub hl [2, 3, 4, 5, 6, 1, 0] rfl)
