set_option maxHeartbeats 4000000 in
set_option maxRecDepth 100000 in
theorem law_c0 {p : Program} {l : Launch} {e : Env} {s : State} {m : MethodId} {below : List Frame} {meth : Method} {c : Code} {G : Gx} {b L : Nat} {xs : Nat → Int32} (hL : L ≤ 2560) (C0 : lw_At p s m meth c b L xs) (hC : Cx p s m #[Value.ref b] meth c cL_law 4 RL ret) (hK : KU G s) (hG : GOk G (fun q : Nat => s.heap.size ≤ q)) {i : Nat} {σ : SI} {τ : SL} {H : Heap} {locs : List Loc} {ls : Array Slot} (hi5 : i + 5 ≤ L) (hI : Inv6 σ) (hR : RepH G σ τ H) (hS : va_S (fun q : Nat => s.heap.size ≤ q) s.heap H locs) (hl : lv_has ls 4 [(3, .int (nI i)), (0, .ref b), (1, .ref (G.2.1 0)), (2, .ref (G.2.1 35))])
    (Tl : ∀ (σ : SI) (τ : SL), Inv6 σ → ∀ (H : Heap) (locs : List Loc) (ls : Array Slot), RepH G σ τ H → va_S (fun q : Nat => s.heap.size ≤ q) s.heap H locs → lv_has ls 4 [(3, .int (nI i)), (0, .ref b), (1, .ref (G.2.1 0)), (2, .ref (G.2.1 35))] → W p l e room_1 s m #[Value.ref b] below meth c H locs 600000 7302250 (lw_Z below #[Value.ref b] s) (F0 m 1020 ls [])) : W p l e room_1 s m #[Value.ref b] below meth c H locs 600000 7302250 (lw_Z below #[Value.ref b] s) (F0 m 160 ls []) := by
  obtain ⟨hx, hb, hr, hml, hown, hts, hX, hbl, hlocks, hgv⟩ := id C0
  have hbA : ¬ (fun q : Nat => s.heap.size ≤ q) b := Nat.not_le.mpr hbl
  obtain ⟨hI1, hRe, hEn, hR6⟩ := id hI
  obtain ⟨hIM, hIC, hRL⟩ := id hI1
  have hnI := nI_T i (by omega)
  have hnow : 0 ≤ (σ 0 8).toInt ∧ (σ 0 8).toInt ≤ 200 := by rw [hRL.1]; exact hIM.1
  have hoff : -1000000 ≤ (σ 0 12).toInt ∧ (σ 0 12).toInt ≤ 1000000 := by rw [hRL.2.2]; exact hIM.2.2.2.2.2.2.1
  have hpc : 0 ≤ (σ 0 11).toInt ∧ (σ 0 11).toInt ≤ 3599 := by rw [hRL.2.1]; exact hIM.2.2.2.2.2.2.2
  have hin1 : vp_in (nI i + (1 : Int32)) L := vin (t := (i : Int) + 1) (addI hnI (by decide) (by omega) (by omega)) (by omega) (by omega)
  have hin2 : vp_in (nI i + (2 : Int32)) L := vin (t := (i : Int) + 2) (addI hnI (by decide) (by omega) (by omega)) (by omega) (by omega)
  have hin3 : vp_in (nI i + (3 : Int32)) L := vin (t := (i : Int) + 3) (addI hnI (by decide) (by omega) (by omega)) (by omega) (by omega)
  have hin4 : vp_in (nI i + (4 : Int32)) L := vin (t := (i : Int) + 4) (addI hnI (by decide) (by omega) (by omega)) (by omega) (by omega)
  have hk6 := hk6_of hI
  have hMP := mpre_of hR6
  refine lv_aload_n hx hb dL_law_160 rfl (lv_at hl 2 rfl) ?_
  refine lv_aload_n hx hb dL_law_161 rfl (lv_at hl 1 rfl) ?_
  refine lv_iload_n hx hb dL_law_162 rfl (lv_at hl 0 rfl) ?_
  refine lv_iconst (v := 1) hx hb dL_law_163 (by decide) ?_
  refine lv_iadd hx hb dL_law_164 ?_
  refine va_sld hx hb hX hbl hbA hS hin1 dL_law_165 ?_
  refine lv_topi (fun a_1 e_a_1 => ?_)
  refine lv_aload_n hx hb dL_law_166 rfl (lv_at hl 1 rfl) ?_
  refine lv_iload_n hx hb dL_law_167 rfl (lv_at hl 0 rfl) ?_
  refine lv_iconst (v := 2) hx hb dL_law_168 (by decide) ?_
  refine lv_iadd hx hb dL_law_169 ?_
  refine va_sld hx hb hX hbl hbA hS hin2 dL_law_170 ?_
  refine lv_topi (fun a_2 e_a_2 => ?_)
  refine lv_aload_n hx hb dL_law_171 rfl (lv_at hl 1 rfl) ?_
  refine lv_iload_n hx hb dL_law_172 rfl (lv_at hl 0 rfl) ?_
  refine lv_iconst (v := 3) hx hb dL_law_173 (by decide) ?_
  refine lv_iadd hx hb dL_law_174 ?_
  refine va_sld hx hb hX hbl hbA hS hin3 dL_law_175 ?_
  refine lv_topi (fun a_3 e_a_3 => ?_)
  refine lv_aload_n hx hb dL_law_176 rfl (lv_at hl 1 rfl) ?_
  refine lv_iload_n hx hb dL_law_177 rfl (lv_at hl 0 rfl) ?_
  refine lv_iconst (v := 4) hx hb dL_law_178 (by decide) ?_
  refine lv_iadd hx hb dL_law_179 ?_
  refine va_sld hx hb hX hbl hbA hS hin4 dL_law_180 ?_
  refine lv_topi (fun a_4 e_a_4 => ?_)
  refine goi (runV (As := [.int a_1, .int a_2, .int a_3, .int a_4]) (rest := []) hC hK hR hl.1 (c_X9_put l hG σ τ a_1 a_1.toInt.toNat rfl a_2 a_3 a_3.toInt.toNat rfl a_4 a_4.toInt.toNat rfl ) (call_b hC.ts TC_X9_put TN_X9 TM_L_13 hd_X9_put ⟨Nat.le_of_ble_eq_true rfl, Nat.le_of_ble_eq_true rfl⟩) TI_X9_put TS_X9_put (ct_bench G _ _) rfl rfl rfl (Nat.le_of_ble_eq_true rfl) dL_law_181 ⟨Nat.le_of_ble_eq_true rfl, Nat.le_of_ble_eq_true rfl⟩) hS (fun v_5 s_7 t_8 H locs w_6 hR hS => ?_)
  have hcn := cn_put hIC rfl w_6
  have hM := hIM.fr hcn.1
  refine lv_pop hx hb dL_law_184 rfl ?_
  refine lv_aload_n hx hb dL_law_185 rfl (lv_at hl 3 rfl) ?_
  refine lv_aload_n hx hb dL_law_186 rfl (lv_at hl 1 rfl) ?_
  refine lv_iload_n hx hb dL_law_187 rfl (lv_at hl 0 rfl) ?_
  refine lv_iconst (v := 1) hx hb dL_law_188 (by decide) ?_
  refine lv_iadd hx hb dL_law_189 ?_
  refine va_sld hx hb hX hbl hbA hS hin1 dL_law_190 ?_
  rw [← e_a_1]
  refine lv_aload_n hx hb dL_law_191 rfl (lv_at hl 1 rfl) ?_
  refine lv_iload_n hx hb dL_law_192 rfl (lv_at hl 0 rfl) ?_
  refine lv_iconst (v := 2) hx hb dL_law_193 (by decide) ?_
  refine lv_iadd hx hb dL_law_194 ?_
  refine va_sld hx hb hX hbl hbA hS hin2 dL_law_195 ?_
  rw [← e_a_2]
  refine lv_aload_n hx hb dL_law_196 rfl (lv_at hl 1 rfl) ?_
  refine lv_iload_n hx hb dL_law_197 rfl (lv_at hl 0 rfl) ?_
  refine lv_iconst (v := 3) hx hb dL_law_198 (by decide) ?_
  refine lv_iadd hx hb dL_law_199 ?_
  refine va_sld hx hb hX hbl hbA hS hin3 dL_law_200 ?_
  rw [← e_a_3]
  refine lv_aload_n hx hb dL_law_201 rfl (lv_at hl 1 rfl) ?_
  refine lv_iload_n hx hb dL_law_202 rfl (lv_at hl 0 rfl) ?_
  refine lv_iconst (v := 4) hx hb dL_law_203 (by decide) ?_
  refine lv_iadd hx hb dL_law_204 ?_
  refine va_sld hx hb hX hbl hbA hS hin4 dL_law_205 ?_
  rw [← e_a_4]
  refine goi (runV (As := [.int a_1, .int a_2, .int a_3, .int a_4]) (rest := []) hC hK hR hl.1 (c_X10_put l hG s_7 t_8 a_1 a_1.toInt.toNat rfl a_2 a_3 a_3.toInt.toNat rfl a_4 a_4.toInt.toNat rfl (hM.1)) (call_b hC.ts TC_X10_put TN_X10 TM_L_17 hd_X10_put ⟨Nat.le_of_ble_eq_true rfl, Nat.le_of_ble_eq_true rfl⟩) TI_X10_put TS_X10_put (ct_model G _ _) rfl rfl rfl (Nat.le_of_ble_eq_true rfl) dL_law_206 ⟨Nat.le_of_ble_eq_true rfl, Nat.le_of_ble_eq_true rfl⟩) hS (fun v_13 s_15 t_16 H locs w_14 hR hS => ?_)
  refine lv_pop hx hb dL_law_209 rfl ?_
  refine lv_goto (tgt := 1020) hx hb dL_law_210 (by decide) ?_
  exact Tl _ _ ⟨(Inv.go hI1 hcn (mn_put hM rfl rfl w_14)), (rel_put hRe hIC rfl rfl rfl w_6 w_14).1, (en_put (hEn.ex (K3.cf hcn.1)) rfl rfl rfl w_14), Rel6.go hR6 hcn (mn_put hM rfl rfl w_14) (w6_put w_6) (v6_put w_14) (k6_put hR6 hIM.1 hRL.1 hcn.1 hRe rfl rfl rfl w_6 w_14)⟩ _ _ _ hR hS hl
set_option maxHeartbeats 4000000 in
set_option maxRecDepth 100000 in
theorem law_c1 {p : Program} {l : Launch} {e : Env} {s : State} {m : MethodId} {below : List Frame} {meth : Method} {c : Code} {G : Gx} {b L : Nat} {xs : Nat → Int32} (hL : L ≤ 2560) (C0 : lw_At p s m meth c b L xs) (hC : Cx p s m #[Value.ref b] meth c cL_law 4 RL ret) (hK : KU G s) (hG : GOk G (fun q : Nat => s.heap.size ≤ q)) {i : Nat} {σ : SI} {τ : SL} {H : Heap} {locs : List Loc} {ls : Array Slot} (hi5 : i + 5 ≤ L) (hI : Inv6 σ) (hR : RepH G σ τ H) (hS : va_S (fun q : Nat => s.heap.size ≤ q) s.heap H locs) (hl : lv_has ls 4 [(3, .int (nI i)), (0, .ref b), (1, .ref (G.2.1 0)), (2, .ref (G.2.1 35))])
    (Tl : ∀ (σ : SI) (τ : SL), Inv6 σ → ∀ (H : Heap) (locs : List Loc) (ls : Array Slot), RepH G σ τ H → va_S (fun q : Nat => s.heap.size ≤ q) s.heap H locs → lv_has ls 4 [(3, .int (nI i)), (0, .ref b), (1, .ref (G.2.1 0)), (2, .ref (G.2.1 35))] → W p l e room_1 s m #[Value.ref b] below meth c H locs 600000 7302250 (lw_Z below #[Value.ref b] s) (F0 m 1020 ls [])) : W p l e room_1 s m #[Value.ref b] below meth c H locs 600000 7302250 (lw_Z below #[Value.ref b] s) (F0 m 213 ls []) := by
  obtain ⟨hx, hb, hr, hml, hown, hts, hX, hbl, hlocks, hgv⟩ := id C0
  have hbA : ¬ (fun q : Nat => s.heap.size ≤ q) b := Nat.not_le.mpr hbl
  obtain ⟨hI1, hRe, hEn, hR6⟩ := id hI
  obtain ⟨hIM, hIC, hRL⟩ := id hI1
  have hnI := nI_T i (by omega)
  have hnow : 0 ≤ (σ 0 8).toInt ∧ (σ 0 8).toInt ≤ 200 := by rw [hRL.1]; exact hIM.1
  have hoff : -1000000 ≤ (σ 0 12).toInt ∧ (σ 0 12).toInt ≤ 1000000 := by rw [hRL.2.2]; exact hIM.2.2.2.2.2.2.1
  have hpc : 0 ≤ (σ 0 11).toInt ∧ (σ 0 11).toInt ≤ 3599 := by rw [hRL.2.1]; exact hIM.2.2.2.2.2.2.2
  have hin1 : vp_in (nI i + (1 : Int32)) L := vin (t := (i : Int) + 1) (addI hnI (by decide) (by omega) (by omega)) (by omega) (by omega)
  have hin2 : vp_in (nI i + (2 : Int32)) L := vin (t := (i : Int) + 2) (addI hnI (by decide) (by omega) (by omega)) (by omega) (by omega)
  have hin3 : vp_in (nI i + (3 : Int32)) L := vin (t := (i : Int) + 3) (addI hnI (by decide) (by omega) (by omega)) (by omega) (by omega)
  have hin4 : vp_in (nI i + (4 : Int32)) L := vin (t := (i : Int) + 4) (addI hnI (by decide) (by omega) (by omega)) (by omega) (by omega)
  have hk6 := hk6_of hI
  have hMP := mpre_of hR6
  refine lv_aload_n hx hb dL_law_213 rfl (lv_at hl 2 rfl) ?_
  refine lv_aload_n hx hb dL_law_214 rfl (lv_at hl 1 rfl) ?_
  refine lv_iload_n hx hb dL_law_215 rfl (lv_at hl 0 rfl) ?_
  refine lv_iconst (v := 1) hx hb dL_law_216 (by decide) ?_
  refine lv_iadd hx hb dL_law_217 ?_
  refine va_sld hx hb hX hbl hbA hS hin1 dL_law_218 ?_
  refine lv_topi (fun a_17 e_a_17 => ?_)
  refine goi (runV (As := [.int a_17]) (rest := []) hC hK hR hl.1 (c_X9_lift l hG σ τ a_17 a_17.toInt.toNat rfl ) (call_b hC.ts TC_X9_lift TN_X9 TM_L_18 hd_X9_lift ⟨Nat.le_of_ble_eq_true rfl, Nat.le_of_ble_eq_true rfl⟩) TI_X9_lift TS_X9_lift (ct_bench G _ _) rfl rfl rfl (Nat.le_of_ble_eq_true rfl) dL_law_219 ⟨Nat.le_of_ble_eq_true rfl, Nat.le_of_ble_eq_true rfl⟩) hS (fun v_18 s_20 t_21 H locs w_19 hR hS => ?_)
  have hcn := cn_lift hIC w_19
  have hM := hIM.fr hcn.1
  refine lv_pop hx hb dL_law_222 rfl ?_
  refine lv_aload_n hx hb dL_law_223 rfl (lv_at hl 3 rfl) ?_
  refine lv_aload_n hx hb dL_law_224 rfl (lv_at hl 1 rfl) ?_
  refine lv_iload_n hx hb dL_law_225 rfl (lv_at hl 0 rfl) ?_
  refine lv_iconst (v := 1) hx hb dL_law_226 (by decide) ?_
  refine lv_iadd hx hb dL_law_227 ?_
  refine va_sld hx hb hX hbl hbA hS hin1 dL_law_228 ?_
  rw [← e_a_17]
  refine goi (runV (As := [.int a_17]) (rest := []) hC hK hR hl.1 (c_X10_lift l hG s_20 t_21 a_17 a_17.toInt.toNat rfl ) (call_b hC.ts TC_X10_lift TN_X10 TM_L_22 hd_X10_lift ⟨Nat.le_of_ble_eq_true rfl, Nat.le_of_ble_eq_true rfl⟩) TI_X10_lift TS_X10_lift (ct_model G _ _) rfl rfl rfl (Nat.le_of_ble_eq_true rfl) dL_law_229 ⟨Nat.le_of_ble_eq_true rfl, Nat.le_of_ble_eq_true rfl⟩) hS (fun v_23 s_25 t_26 H locs w_24 hR hS => ?_)
  refine lv_pop hx hb dL_law_232 rfl ?_
  refine lv_goto (tgt := 1020) hx hb dL_law_233 (by decide) ?_
  exact Tl _ _ ⟨(Inv.go hI1 hcn (mn_lift hM w_24)), (rel_lift hRe rfl w_19 w_24).1, (en_lift (hEn.ex (K3.cf hcn.1)) rfl w_24), Rel6.go hR6 hcn (mn_lift hM w_24) (w6_lift w_19) (v6_lift w_24) (k6_lift hR6 hcn.1 hRe rfl w_19 w_24)⟩ _ _ _ hR hS hl
set_option maxHeartbeats 4000000 in
set_option maxRecDepth 100000 in
theorem law_c2 {p : Program} {l : Launch} {e : Env} {s : State} {m : MethodId} {below : List Frame} {meth : Method} {c : Code} {G : Gx} {b L : Nat} {xs : Nat → Int32} (hL : L ≤ 2560) (C0 : lw_At p s m meth c b L xs) (hC : Cx p s m #[Value.ref b] meth c cL_law 4 RL ret) (hK : KU G s) (hG : GOk G (fun q : Nat => s.heap.size ≤ q)) {i : Nat} {σ : SI} {τ : SL} {H : Heap} {locs : List Loc} {ls : Array Slot} (hi5 : i + 5 ≤ L) (hI : Inv6 σ) (hR : RepH G σ τ H) (hS : va_S (fun q : Nat => s.heap.size ≤ q) s.heap H locs) (hl : lv_has ls 4 [(3, .int (nI i)), (0, .ref b), (1, .ref (G.2.1 0)), (2, .ref (G.2.1 35))])
    (Tl : ∀ (σ : SI) (τ : SL), Inv6 σ → ∀ (H : Heap) (locs : List Loc) (ls : Array Slot), RepH G σ τ H → va_S (fun q : Nat => s.heap.size ≤ q) s.heap H locs → lv_has ls 4 [(3, .int (nI i)), (0, .ref b), (1, .ref (G.2.1 0)), (2, .ref (G.2.1 35))] → W p l e room_1 s m #[Value.ref b] below meth c H locs 600000 7302250 (lw_Z below #[Value.ref b] s) (F0 m 1020 ls [])) : W p l e room_1 s m #[Value.ref b] below meth c H locs 600000 7302250 (lw_Z below #[Value.ref b] s) (F0 m 236 ls []) := by
  obtain ⟨hx, hb, hr, hml, hown, hts, hX, hbl, hlocks, hgv⟩ := id C0
  have hbA : ¬ (fun q : Nat => s.heap.size ≤ q) b := Nat.not_le.mpr hbl
  obtain ⟨hI1, hRe, hEn, hR6⟩ := id hI
  obtain ⟨hIM, hIC, hRL⟩ := id hI1
  have hnI := nI_T i (by omega)
  have hnow : 0 ≤ (σ 0 8).toInt ∧ (σ 0 8).toInt ≤ 200 := by rw [hRL.1]; exact hIM.1
  have hoff : -1000000 ≤ (σ 0 12).toInt ∧ (σ 0 12).toInt ≤ 1000000 := by rw [hRL.2.2]; exact hIM.2.2.2.2.2.2.1
  have hpc : 0 ≤ (σ 0 11).toInt ∧ (σ 0 11).toInt ≤ 3599 := by rw [hRL.2.1]; exact hIM.2.2.2.2.2.2.2
  have hin1 : vp_in (nI i + (1 : Int32)) L := vin (t := (i : Int) + 1) (addI hnI (by decide) (by omega) (by omega)) (by omega) (by omega)
  have hin2 : vp_in (nI i + (2 : Int32)) L := vin (t := (i : Int) + 2) (addI hnI (by decide) (by omega) (by omega)) (by omega) (by omega)
  have hin3 : vp_in (nI i + (3 : Int32)) L := vin (t := (i : Int) + 3) (addI hnI (by decide) (by omega) (by omega)) (by omega) (by omega)
  have hin4 : vp_in (nI i + (4 : Int32)) L := vin (t := (i : Int) + 4) (addI hnI (by decide) (by omega) (by omega)) (by omega) (by omega)
  have hk6 := hk6_of hI
  have hMP := mpre_of hR6
  refine lv_aload_n hx hb dL_law_236 rfl (lv_at hl 2 rfl) ?_
  refine lv_aload_n hx hb dL_law_237 rfl (lv_at hl 1 rfl) ?_
  refine lv_iload_n hx hb dL_law_238 rfl (lv_at hl 0 rfl) ?_
  refine lv_iconst (v := 1) hx hb dL_law_239 (by decide) ?_
  refine lv_iadd hx hb dL_law_240 ?_
  refine va_sld hx hb hX hbl hbA hS hin1 dL_law_241 ?_
  refine lv_topi (fun a_27 e_a_27 => ?_)
  refine goip (runV (As := [.int a_27]) (rest := []) hC hK hR hl.1 (c_X9_kind l hG σ τ a_27 a_27.toInt.toNat rfl ) (call_b hC.ts TC_X9_kind TN_X9 TM_L_23 hd_X9_kind ⟨Nat.le_of_ble_eq_true rfl, Nat.le_of_ble_eq_true rfl⟩) TI_X9_kind TS_X9_kind (ct_bench G _ _) rfl rfl rfl (Nat.le_of_ble_eq_true rfl) dL_law_242 ⟨Nat.le_of_ble_eq_true rfl, Nat.le_of_ble_eq_true rfl⟩) hS (fun v_28 H locs w_29 hR hS => ?_)
  refine lv_pop hx hb dL_law_245 rfl ?_
  refine lv_aload_n hx hb dL_law_246 rfl (lv_at hl 3 rfl) ?_
  refine lv_aload_n hx hb dL_law_247 rfl (lv_at hl 1 rfl) ?_
  refine lv_iload_n hx hb dL_law_248 rfl (lv_at hl 0 rfl) ?_
  refine lv_iconst (v := 1) hx hb dL_law_249 (by decide) ?_
  refine lv_iadd hx hb dL_law_250 ?_
  refine va_sld hx hb hX hbl hbA hS hin1 dL_law_251 ?_
  rw [← e_a_27]
  refine goip (runV (As := [.int a_27]) (rest := []) hC hK hR hl.1 (c_X10_kind l hG σ τ a_27 a_27.toInt.toNat rfl ) (call_b hC.ts TC_X10_kind TN_X10 TM_L_26 hd_X10_kind ⟨Nat.le_of_ble_eq_true rfl, Nat.le_of_ble_eq_true rfl⟩) TI_X10_kind TS_X10_kind (ct_model G _ _) rfl rfl rfl (Nat.le_of_ble_eq_true rfl) dL_law_252 ⟨Nat.le_of_ble_eq_true rfl, Nat.le_of_ble_eq_true rfl⟩) hS (fun v_31 H locs w_32 hR hS => ?_)
  refine lv_pop hx hb dL_law_255 rfl ?_
  refine lv_goto (tgt := 1020) hx hb dL_law_256 (by decide) ?_
  exact Tl _ _ hI _ _ _ hR hS hl
set_option maxHeartbeats 4000000 in
set_option maxRecDepth 100000 in
theorem law_c3 {p : Program} {l : Launch} {e : Env} {s : State} {m : MethodId} {below : List Frame} {meth : Method} {c : Code} {G : Gx} {b L : Nat} {xs : Nat → Int32} (hL : L ≤ 2560) (C0 : lw_At p s m meth c b L xs) (hC : Cx p s m #[Value.ref b] meth c cL_law 4 RL ret) (hK : KU G s) (hG : GOk G (fun q : Nat => s.heap.size ≤ q)) {i : Nat} {σ : SI} {τ : SL} {H : Heap} {locs : List Loc} {ls : Array Slot} (hi5 : i + 5 ≤ L) (hI : Inv6 σ) (hR : RepH G σ τ H) (hS : va_S (fun q : Nat => s.heap.size ≤ q) s.heap H locs) (hl : lv_has ls 4 [(3, .int (nI i)), (0, .ref b), (1, .ref (G.2.1 0)), (2, .ref (G.2.1 35))])
    (Tl : ∀ (σ : SI) (τ : SL), Inv6 σ → ∀ (H : Heap) (locs : List Loc) (ls : Array Slot), RepH G σ τ H → va_S (fun q : Nat => s.heap.size ≤ q) s.heap H locs → lv_has ls 4 [(3, .int (nI i)), (0, .ref b), (1, .ref (G.2.1 0)), (2, .ref (G.2.1 35))] → W p l e room_1 s m #[Value.ref b] below meth c H locs 600000 7302250 (lw_Z below #[Value.ref b] s) (F0 m 1020 ls [])) : W p l e room_1 s m #[Value.ref b] below meth c H locs 600000 7302250 (lw_Z below #[Value.ref b] s) (F0 m 259 ls []) := by
  obtain ⟨hx, hb, hr, hml, hown, hts, hX, hbl, hlocks, hgv⟩ := id C0
  have hbA : ¬ (fun q : Nat => s.heap.size ≤ q) b := Nat.not_le.mpr hbl
  obtain ⟨hI1, hRe, hEn, hR6⟩ := id hI
  obtain ⟨hIM, hIC, hRL⟩ := id hI1
  have hnI := nI_T i (by omega)
  have hnow : 0 ≤ (σ 0 8).toInt ∧ (σ 0 8).toInt ≤ 200 := by rw [hRL.1]; exact hIM.1
  have hoff : -1000000 ≤ (σ 0 12).toInt ∧ (σ 0 12).toInt ≤ 1000000 := by rw [hRL.2.2]; exact hIM.2.2.2.2.2.2.1
  have hpc : 0 ≤ (σ 0 11).toInt ∧ (σ 0 11).toInt ≤ 3599 := by rw [hRL.2.1]; exact hIM.2.2.2.2.2.2.2
  have hin1 : vp_in (nI i + (1 : Int32)) L := vin (t := (i : Int) + 1) (addI hnI (by decide) (by omega) (by omega)) (by omega) (by omega)
  have hin2 : vp_in (nI i + (2 : Int32)) L := vin (t := (i : Int) + 2) (addI hnI (by decide) (by omega) (by omega)) (by omega) (by omega)
  have hin3 : vp_in (nI i + (3 : Int32)) L := vin (t := (i : Int) + 3) (addI hnI (by decide) (by omega) (by omega)) (by omega) (by omega)
  have hin4 : vp_in (nI i + (4 : Int32)) L := vin (t := (i : Int) + 4) (addI hnI (by decide) (by omega) (by omega)) (by omega) (by omega)
  have hk6 := hk6_of hI
  have hMP := mpre_of hR6
  refine lv_aload_n hx hb dL_law_259 rfl (lv_at hl 2 rfl) ?_
  refine lv_aload_n hx hb dL_law_260 rfl (lv_at hl 1 rfl) ?_
  refine lv_iload_n hx hb dL_law_261 rfl (lv_at hl 0 rfl) ?_
  refine lv_iconst (v := 1) hx hb dL_law_262 (by decide) ?_
  refine lv_iadd hx hb dL_law_263 ?_
  refine va_sld hx hb hX hbl hbA hS hin1 dL_law_264 ?_
  refine lv_topi (fun a_33 e_a_33 => ?_)
  refine lv_aload_n hx hb dL_law_265 rfl (lv_at hl 1 rfl) ?_
  refine lv_iload_n hx hb dL_law_266 rfl (lv_at hl 0 rfl) ?_
  refine lv_iconst (v := 2) hx hb dL_law_267 (by decide) ?_
  refine lv_iadd hx hb dL_law_268 ?_
  refine va_sld hx hb hX hbl hbA hS hin2 dL_law_269 ?_
  refine lv_topi (fun a_34 e_a_34 => ?_)
  refine goi (runV (As := [.int a_33, .int a_34]) (rest := []) hC hK hR hl.1 (c_X9_read l hG σ τ a_33 a_33.toInt.toNat rfl a_34 hnow) (call_b hC.ts TC_X9_read TN_X9 TM_L_27 hd_X9_read ⟨Nat.le_of_ble_eq_true rfl, Nat.le_of_ble_eq_true rfl⟩) TI_X9_read TS_X9_read (ct_bench G _ _) rfl rfl rfl (Nat.le_of_ble_eq_true rfl) dL_law_270 ⟨Nat.le_of_ble_eq_true rfl, Nat.le_of_ble_eq_true rfl⟩) hS (fun v_35 s_37 t_38 H locs w_36 hR hS => ?_)
  have hcn := cn_read hIC w_36
  have hM := hIM.fr hcn.1
  refine lv_pop hx hb dL_law_273 rfl ?_
  refine lv_aload_n hx hb dL_law_274 rfl (lv_at hl 3 rfl) ?_
  refine lv_aload_n hx hb dL_law_275 rfl (lv_at hl 1 rfl) ?_
  refine lv_iload_n hx hb dL_law_276 rfl (lv_at hl 0 rfl) ?_
  refine lv_iconst (v := 1) hx hb dL_law_277 (by decide) ?_
  refine lv_iadd hx hb dL_law_278 ?_
  refine va_sld hx hb hX hbl hbA hS hin1 dL_law_279 ?_
  rw [← e_a_33]
  refine lv_aload_n hx hb dL_law_280 rfl (lv_at hl 1 rfl) ?_
  refine lv_iload_n hx hb dL_law_281 rfl (lv_at hl 0 rfl) ?_
  refine lv_iconst (v := 2) hx hb dL_law_282 (by decide) ?_
  refine lv_iadd hx hb dL_law_283 ?_
  refine va_sld hx hb hX hbl hbA hS hin2 dL_law_284 ?_
  rw [← e_a_34]
  refine goi (runV (As := [.int a_33, .int a_34]) (rest := []) hC hK hR hl.1 (c_X10_read l hG s_37 t_38 a_33 a_33.toInt.toNat rfl a_34 (hM.1)) (call_b hC.ts TC_X10_read TN_X10 TM_L_31 hd_X10_read ⟨Nat.le_of_ble_eq_true rfl, Nat.le_of_ble_eq_true rfl⟩) TI_X10_read TS_X10_read (ct_model G _ _) rfl rfl rfl (Nat.le_of_ble_eq_true rfl) dL_law_285 ⟨Nat.le_of_ble_eq_true rfl, Nat.le_of_ble_eq_true rfl⟩) hS (fun v_41 s_43 t_44 H locs w_42 hR hS => ?_)
  refine lv_pop hx hb dL_law_288 rfl ?_
  refine lv_goto (tgt := 1020) hx hb dL_law_289 (by decide) ?_
  exact Tl _ _ ⟨(Inv.go hI1 hcn (mn_read hM w_42)), (rel_read hRe hIM.1 hRL.1 rfl w_36 w_42).1, (EN.ex (hEn.ex (K3.cf hcn.1)) (k3_read w_42)), Rel6.go hR6 hcn (mn_read hM w_42) (w6_read w_36) (v6_read w_42) p0_k⟩ _ _ _ hR hS hl
set_option maxHeartbeats 4000000 in
set_option maxRecDepth 100000 in
theorem law_c4 {p : Program} {l : Launch} {e : Env} {s : State} {m : MethodId} {below : List Frame} {meth : Method} {c : Code} {G : Gx} {b L : Nat} {xs : Nat → Int32} (hL : L ≤ 2560) (C0 : lw_At p s m meth c b L xs) (hC : Cx p s m #[Value.ref b] meth c cL_law 4 RL ret) (hK : KU G s) (hG : GOk G (fun q : Nat => s.heap.size ≤ q)) {i : Nat} {σ : SI} {τ : SL} {H : Heap} {locs : List Loc} {ls : Array Slot} (hi5 : i + 5 ≤ L) (hI : Inv6 σ) (hR : RepH G σ τ H) (hS : va_S (fun q : Nat => s.heap.size ≤ q) s.heap H locs) (hl : lv_has ls 4 [(3, .int (nI i)), (0, .ref b), (1, .ref (G.2.1 0)), (2, .ref (G.2.1 35))])
    (Tl : ∀ (σ : SI) (τ : SL), Inv6 σ → ∀ (H : Heap) (locs : List Loc) (ls : Array Slot), RepH G σ τ H → va_S (fun q : Nat => s.heap.size ≤ q) s.heap H locs → lv_has ls 4 [(3, .int (nI i)), (0, .ref b), (1, .ref (G.2.1 0)), (2, .ref (G.2.1 35))] → W p l e room_1 s m #[Value.ref b] below meth c H locs 600000 7302250 (lw_Z below #[Value.ref b] s) (F0 m 1020 ls [])) : W p l e room_1 s m #[Value.ref b] below meth c H locs 600000 7302250 (lw_Z below #[Value.ref b] s) (F0 m 292 ls []) := by
  obtain ⟨hx, hb, hr, hml, hown, hts, hX, hbl, hlocks, hgv⟩ := id C0
  have hbA : ¬ (fun q : Nat => s.heap.size ≤ q) b := Nat.not_le.mpr hbl
  obtain ⟨hI1, hRe, hEn, hR6⟩ := id hI
  obtain ⟨hIM, hIC, hRL⟩ := id hI1
  have hnI := nI_T i (by omega)
  have hnow : 0 ≤ (σ 0 8).toInt ∧ (σ 0 8).toInt ≤ 200 := by rw [hRL.1]; exact hIM.1
  have hoff : -1000000 ≤ (σ 0 12).toInt ∧ (σ 0 12).toInt ≤ 1000000 := by rw [hRL.2.2]; exact hIM.2.2.2.2.2.2.1
  have hpc : 0 ≤ (σ 0 11).toInt ∧ (σ 0 11).toInt ≤ 3599 := by rw [hRL.2.1]; exact hIM.2.2.2.2.2.2.2
  have hin1 : vp_in (nI i + (1 : Int32)) L := vin (t := (i : Int) + 1) (addI hnI (by decide) (by omega) (by omega)) (by omega) (by omega)
  have hin2 : vp_in (nI i + (2 : Int32)) L := vin (t := (i : Int) + 2) (addI hnI (by decide) (by omega) (by omega)) (by omega) (by omega)
  have hin3 : vp_in (nI i + (3 : Int32)) L := vin (t := (i : Int) + 3) (addI hnI (by decide) (by omega) (by omega)) (by omega) (by omega)
  have hin4 : vp_in (nI i + (4 : Int32)) L := vin (t := (i : Int) + 4) (addI hnI (by decide) (by omega) (by omega)) (by omega) (by omega)
  have hk6 := hk6_of hI
  have hMP := mpre_of hR6
  refine lv_aload_n hx hb dL_law_292 rfl (lv_at hl 2 rfl) ?_
  refine lv_aload_n hx hb dL_law_293 rfl (lv_at hl 1 rfl) ?_
  refine lv_iload_n hx hb dL_law_294 rfl (lv_at hl 0 rfl) ?_
  refine lv_iconst (v := 1) hx hb dL_law_295 (by decide) ?_
  refine lv_iadd hx hb dL_law_296 ?_
  refine va_sld hx hb hX hbl hbA hS hin1 dL_law_297 ?_
  refine lv_topi (fun a_45 e_a_45 => ?_)
  refine lv_aload_n hx hb dL_law_298 rfl (lv_at hl 1 rfl) ?_
  refine lv_iload_n hx hb dL_law_299 rfl (lv_at hl 0 rfl) ?_
  refine lv_iconst (v := 2) hx hb dL_law_300 (by decide) ?_
  refine lv_iadd hx hb dL_law_301 ?_
  refine va_sld hx hb hX hbl hbA hS hin2 dL_law_302 ?_
  refine lv_topi (fun a_46 e_a_46 => ?_)
  refine goi (runV (As := [.int a_45, .int a_46]) (rest := []) hC hK hR hl.1 (c_X9_back l hG σ τ a_45 a_45.toInt.toNat rfl a_46 hnow) (call_b hC.ts TC_X9_back TN_X9 TM_L_32 hd_X9_back ⟨Nat.le_of_ble_eq_true rfl, Nat.le_of_ble_eq_true rfl⟩) TI_X9_back TS_X9_back (ct_bench G _ _) rfl rfl rfl (Nat.le_of_ble_eq_true rfl) dL_law_303 ⟨Nat.le_of_ble_eq_true rfl, Nat.le_of_ble_eq_true rfl⟩) hS (fun v_47 s_49 t_50 H locs w_48 hR hS => ?_)
  have hcn := cn_back hIC w_48
  have hM := hIM.fr hcn.1
  refine lv_pop hx hb dL_law_306 rfl ?_
  refine lv_aload_n hx hb dL_law_307 rfl (lv_at hl 3 rfl) ?_
  refine lv_aload_n hx hb dL_law_308 rfl (lv_at hl 1 rfl) ?_
  refine lv_iload_n hx hb dL_law_309 rfl (lv_at hl 0 rfl) ?_
  refine lv_iconst (v := 1) hx hb dL_law_310 (by decide) ?_
  refine lv_iadd hx hb dL_law_311 ?_
  refine va_sld hx hb hX hbl hbA hS hin1 dL_law_312 ?_
  rw [← e_a_45]
  refine lv_aload_n hx hb dL_law_313 rfl (lv_at hl 1 rfl) ?_
  refine lv_iload_n hx hb dL_law_314 rfl (lv_at hl 0 rfl) ?_
  refine lv_iconst (v := 2) hx hb dL_law_315 (by decide) ?_
  refine lv_iadd hx hb dL_law_316 ?_
  refine va_sld hx hb hX hbl hbA hS hin2 dL_law_317 ?_
  rw [← e_a_46]
  refine goi (runV (As := [.int a_45, .int a_46]) (rest := []) hC hK hR hl.1 (c_X10_back l hG s_49 t_50 a_45 a_45.toInt.toNat rfl a_46 (hM.1)) (call_b hC.ts TC_X10_back TN_X10 TM_L_35 hd_X10_back ⟨Nat.le_of_ble_eq_true rfl, Nat.le_of_ble_eq_true rfl⟩) TI_X10_back TS_X10_back (ct_model G _ _) rfl rfl rfl (Nat.le_of_ble_eq_true rfl) dL_law_318 ⟨Nat.le_of_ble_eq_true rfl, Nat.le_of_ble_eq_true rfl⟩) hS (fun v_53 s_55 t_56 H locs w_54 hR hS => ?_)
  refine lv_pop hx hb dL_law_321 rfl ?_
  refine lv_goto (tgt := 1020) hx hb dL_law_322 (by decide) ?_
  exact Tl _ _ ⟨(Inv.go hI1 hcn (mn_back hM w_54)), (rel_back hRe hIM.1 hRL.1 rfl w_48 w_54).1, (EN.ex (hEn.ex (K3.cf hcn.1)) (k3_back w_54)), Rel6.go hR6 hcn (mn_back hM w_54) (w6_back w_48) (v6_back w_54) p0_k⟩ _ _ _ hR hS hl
set_option maxHeartbeats 4000000 in
set_option maxRecDepth 100000 in
theorem law_c5 {p : Program} {l : Launch} {e : Env} {s : State} {m : MethodId} {below : List Frame} {meth : Method} {c : Code} {G : Gx} {b L : Nat} {xs : Nat → Int32} (hL : L ≤ 2560) (C0 : lw_At p s m meth c b L xs) (hC : Cx p s m #[Value.ref b] meth c cL_law 4 RL ret) (hK : KU G s) (hG : GOk G (fun q : Nat => s.heap.size ≤ q)) {i : Nat} {σ : SI} {τ : SL} {H : Heap} {locs : List Loc} {ls : Array Slot} (hi5 : i + 5 ≤ L) (hI : Inv6 σ) (hR : RepH G σ τ H) (hS : va_S (fun q : Nat => s.heap.size ≤ q) s.heap H locs) (hl : lv_has ls 4 [(3, .int (nI i)), (0, .ref b), (1, .ref (G.2.1 0)), (2, .ref (G.2.1 35))])
    (Tl : ∀ (σ : SI) (τ : SL), Inv6 σ → ∀ (H : Heap) (locs : List Loc) (ls : Array Slot), RepH G σ τ H → va_S (fun q : Nat => s.heap.size ≤ q) s.heap H locs → lv_has ls 4 [(3, .int (nI i)), (0, .ref b), (1, .ref (G.2.1 0)), (2, .ref (G.2.1 35))] → W p l e room_1 s m #[Value.ref b] below meth c H locs 600000 7302250 (lw_Z below #[Value.ref b] s) (F0 m 1020 ls [])) : W p l e room_1 s m #[Value.ref b] below meth c H locs 600000 7302250 (lw_Z below #[Value.ref b] s) (F0 m 325 ls []) := by
  obtain ⟨hx, hb, hr, hml, hown, hts, hX, hbl, hlocks, hgv⟩ := id C0
  have hbA : ¬ (fun q : Nat => s.heap.size ≤ q) b := Nat.not_le.mpr hbl
  obtain ⟨hI1, hRe, hEn, hR6⟩ := id hI
  obtain ⟨hIM, hIC, hRL⟩ := id hI1
  have hnI := nI_T i (by omega)
  have hnow : 0 ≤ (σ 0 8).toInt ∧ (σ 0 8).toInt ≤ 200 := by rw [hRL.1]; exact hIM.1
  have hoff : -1000000 ≤ (σ 0 12).toInt ∧ (σ 0 12).toInt ≤ 1000000 := by rw [hRL.2.2]; exact hIM.2.2.2.2.2.2.1
  have hpc : 0 ≤ (σ 0 11).toInt ∧ (σ 0 11).toInt ≤ 3599 := by rw [hRL.2.1]; exact hIM.2.2.2.2.2.2.2
  have hin1 : vp_in (nI i + (1 : Int32)) L := vin (t := (i : Int) + 1) (addI hnI (by decide) (by omega) (by omega)) (by omega) (by omega)
  have hin2 : vp_in (nI i + (2 : Int32)) L := vin (t := (i : Int) + 2) (addI hnI (by decide) (by omega) (by omega)) (by omega) (by omega)
  have hin3 : vp_in (nI i + (3 : Int32)) L := vin (t := (i : Int) + 3) (addI hnI (by decide) (by omega) (by omega)) (by omega) (by omega)
  have hin4 : vp_in (nI i + (4 : Int32)) L := vin (t := (i : Int) + 4) (addI hnI (by decide) (by omega) (by omega)) (by omega) (by omega)
  have hk6 := hk6_of hI
  have hMP := mpre_of hR6
  refine lv_aload_n hx hb dL_law_325 rfl (lv_at hl 2 rfl) ?_
  refine lv_aload_n hx hb dL_law_326 rfl (lv_at hl 1 rfl) ?_
  refine lv_iload_n hx hb dL_law_327 rfl (lv_at hl 0 rfl) ?_
  refine lv_iconst (v := 1) hx hb dL_law_328 (by decide) ?_
  refine lv_iadd hx hb dL_law_329 ?_
  refine va_sld hx hb hX hbl hbA hS hin1 dL_law_330 ?_
  refine lv_topi (fun a_57 e_a_57 => ?_)
  refine goi (runV (As := [.int a_57]) (rest := []) hC hK hR hl.1 (c_X9_tear l hG σ τ a_57 a_57.toInt.toNat rfl ) (call_b hC.ts TC_X9_tear TN_X9 TM_L_36 hd_X9_tear ⟨Nat.le_of_ble_eq_true rfl, Nat.le_of_ble_eq_true rfl⟩) TI_X9_tear TS_X9_tear (ct_bench G _ _) rfl rfl rfl (Nat.le_of_ble_eq_true rfl) dL_law_331 ⟨Nat.le_of_ble_eq_true rfl, Nat.le_of_ble_eq_true rfl⟩) hS (fun v_58 s_60 t_61 H locs w_59 hR hS => ?_)
  have hcn := cn_tear hIC w_59
  have hM := hIM.fr hcn.1
  refine lv_pop hx hb dL_law_334 rfl ?_
  refine lv_aload_n hx hb dL_law_335 rfl (lv_at hl 3 rfl) ?_
  refine lv_aload_n hx hb dL_law_336 rfl (lv_at hl 1 rfl) ?_
  refine lv_iload_n hx hb dL_law_337 rfl (lv_at hl 0 rfl) ?_
  refine lv_iconst (v := 1) hx hb dL_law_338 (by decide) ?_
  refine lv_iadd hx hb dL_law_339 ?_
  refine va_sld hx hb hX hbl hbA hS hin1 dL_law_340 ?_
  rw [← e_a_57]
  refine goi (runV (As := [.int a_57]) (rest := []) hC hK hR hl.1 (c_X10_tear l hG s_60 t_61 a_57 a_57.toInt.toNat rfl ) (call_b hC.ts TC_X10_tear TN_X10 TM_L_39 hd_X10_tear ⟨Nat.le_of_ble_eq_true rfl, Nat.le_of_ble_eq_true rfl⟩) TI_X10_tear TS_X10_tear (ct_model G _ _) rfl rfl rfl (Nat.le_of_ble_eq_true rfl) dL_law_341 ⟨Nat.le_of_ble_eq_true rfl, Nat.le_of_ble_eq_true rfl⟩) hS (fun v_63 s_65 t_66 H locs w_64 hR hS => ?_)
  refine lv_pop hx hb dL_law_344 rfl ?_
  refine lv_goto (tgt := 1020) hx hb dL_law_345 (by decide) ?_
  exact Tl _ _ ⟨(Inv.go hI1 hcn (mn_tear hM w_64)), (rel_tear hRe rfl w_59 w_64).1, (EN.ex (hEn.ex (K3.cf hcn.1)) (k3_tear w_64)), Rel6.go hR6 hcn (mn_tear hM w_64) (w6_tear w_59) (v6_tear w_64) p0_k⟩ _ _ _ hR hS hl
set_option maxHeartbeats 4000000 in
set_option maxRecDepth 100000 in
theorem law_c6 {p : Program} {l : Launch} {e : Env} {s : State} {m : MethodId} {below : List Frame} {meth : Method} {c : Code} {G : Gx} {b L : Nat} {xs : Nat → Int32} (hL : L ≤ 2560) (C0 : lw_At p s m meth c b L xs) (hC : Cx p s m #[Value.ref b] meth c cL_law 4 RL ret) (hK : KU G s) (hG : GOk G (fun q : Nat => s.heap.size ≤ q)) {i : Nat} {σ : SI} {τ : SL} {H : Heap} {locs : List Loc} {ls : Array Slot} (hi5 : i + 5 ≤ L) (hI : Inv6 σ) (hR : RepH G σ τ H) (hS : va_S (fun q : Nat => s.heap.size ≤ q) s.heap H locs) (hl : lv_has ls 4 [(3, .int (nI i)), (0, .ref b), (1, .ref (G.2.1 0)), (2, .ref (G.2.1 35))])
    (Tl : ∀ (σ : SI) (τ : SL), Inv6 σ → ∀ (H : Heap) (locs : List Loc) (ls : Array Slot), RepH G σ τ H → va_S (fun q : Nat => s.heap.size ≤ q) s.heap H locs → lv_has ls 4 [(3, .int (nI i)), (0, .ref b), (1, .ref (G.2.1 0)), (2, .ref (G.2.1 35))] → W p l e room_1 s m #[Value.ref b] below meth c H locs 600000 7302250 (lw_Z below #[Value.ref b] s) (F0 m 1020 ls [])) : W p l e room_1 s m #[Value.ref b] below meth c H locs 600000 7302250 (lw_Z below #[Value.ref b] s) (F0 m 348 ls []) := by
  obtain ⟨hx, hb, hr, hml, hown, hts, hX, hbl, hlocks, hgv⟩ := id C0
  have hbA : ¬ (fun q : Nat => s.heap.size ≤ q) b := Nat.not_le.mpr hbl
  obtain ⟨hI1, hRe, hEn, hR6⟩ := id hI
  obtain ⟨hIM, hIC, hRL⟩ := id hI1
  have hnI := nI_T i (by omega)
  have hnow : 0 ≤ (σ 0 8).toInt ∧ (σ 0 8).toInt ≤ 200 := by rw [hRL.1]; exact hIM.1
  have hoff : -1000000 ≤ (σ 0 12).toInt ∧ (σ 0 12).toInt ≤ 1000000 := by rw [hRL.2.2]; exact hIM.2.2.2.2.2.2.1
  have hpc : 0 ≤ (σ 0 11).toInt ∧ (σ 0 11).toInt ≤ 3599 := by rw [hRL.2.1]; exact hIM.2.2.2.2.2.2.2
  have hin1 : vp_in (nI i + (1 : Int32)) L := vin (t := (i : Int) + 1) (addI hnI (by decide) (by omega) (by omega)) (by omega) (by omega)
  have hin2 : vp_in (nI i + (2 : Int32)) L := vin (t := (i : Int) + 2) (addI hnI (by decide) (by omega) (by omega)) (by omega) (by omega)
  have hin3 : vp_in (nI i + (3 : Int32)) L := vin (t := (i : Int) + 3) (addI hnI (by decide) (by omega) (by omega)) (by omega) (by omega)
  have hin4 : vp_in (nI i + (4 : Int32)) L := vin (t := (i : Int) + 4) (addI hnI (by decide) (by omega) (by omega)) (by omega) (by omega)
  have hk6 := hk6_of hI
  have hMP := mpre_of hR6
  refine lv_aload_n hx hb dL_law_348 rfl (lv_at hl 2 rfl) ?_
  refine lv_aload_n hx hb dL_law_349 rfl (lv_at hl 1 rfl) ?_
  refine lv_iload_n hx hb dL_law_350 rfl (lv_at hl 0 rfl) ?_
  refine lv_iconst (v := 1) hx hb dL_law_351 (by decide) ?_
  refine lv_iadd hx hb dL_law_352 ?_
  refine va_sld hx hb hX hbl hbA hS hin1 dL_law_353 ?_
  refine lv_topi (fun a_67 e_a_67 => ?_)
  refine lv_aload_n hx hb dL_law_354 rfl (lv_at hl 1 rfl) ?_
  refine lv_iload_n hx hb dL_law_355 rfl (lv_at hl 0 rfl) ?_
  refine lv_iconst (v := 2) hx hb dL_law_356 (by decide) ?_
  refine lv_iadd hx hb dL_law_357 ?_
  refine va_sld hx hb hX hbl hbA hS hin2 dL_law_358 ?_
  refine lv_topi (fun a_68 e_a_68 => ?_)
  refine goi (runV (As := [.int a_67, .int a_68]) (rest := []) hC hK hR hl.1 (c_X9_way l hG σ τ a_67 a_67.toInt.toNat rfl a_68 ) (call_b hC.ts TC_X9_way TN_X9 TM_L_40 hd_X9_way ⟨Nat.le_of_ble_eq_true rfl, Nat.le_of_ble_eq_true rfl⟩) TI_X9_way TS_X9_way (ct_bench G _ _) rfl rfl rfl (Nat.le_of_ble_eq_true rfl) dL_law_359 ⟨Nat.le_of_ble_eq_true rfl, Nat.le_of_ble_eq_true rfl⟩) hS (fun v_69 s_71 t_72 H locs w_70 hR hS => ?_)
  have hcn := cn_way hIC w_70
  have hM := hIM.fr hcn.1
  refine lv_pop hx hb dL_law_362 rfl ?_
  refine lv_aload_n hx hb dL_law_363 rfl (lv_at hl 3 rfl) ?_
  refine lv_aload_n hx hb dL_law_364 rfl (lv_at hl 1 rfl) ?_
  refine lv_iload_n hx hb dL_law_365 rfl (lv_at hl 0 rfl) ?_
  refine lv_iconst (v := 1) hx hb dL_law_366 (by decide) ?_
  refine lv_iadd hx hb dL_law_367 ?_
  refine va_sld hx hb hX hbl hbA hS hin1 dL_law_368 ?_
  rw [← e_a_67]
  refine lv_aload_n hx hb dL_law_369 rfl (lv_at hl 1 rfl) ?_
  refine lv_iload_n hx hb dL_law_370 rfl (lv_at hl 0 rfl) ?_
  refine lv_iconst (v := 2) hx hb dL_law_371 (by decide) ?_
  refine lv_iadd hx hb dL_law_372 ?_
  refine va_sld hx hb hX hbl hbA hS hin2 dL_law_373 ?_
  rw [← e_a_68]
  refine goi (runV (As := [.int a_67, .int a_68]) (rest := []) hC hK hR hl.1 (c_X10_way l hG s_71 t_72 a_67 a_67.toInt.toNat rfl a_68 ) (call_b hC.ts TC_X10_way TN_X10 TM_L_43 hd_X10_way ⟨Nat.le_of_ble_eq_true rfl, Nat.le_of_ble_eq_true rfl⟩) TI_X10_way TS_X10_way (ct_model G _ _) rfl rfl rfl (Nat.le_of_ble_eq_true rfl) dL_law_374 ⟨Nat.le_of_ble_eq_true rfl, Nat.le_of_ble_eq_true rfl⟩) hS (fun v_75 s_77 t_78 H locs w_76 hR hS => ?_)
  refine lv_pop hx hb dL_law_377 rfl ?_
  refine lv_goto (tgt := 1020) hx hb dL_law_378 (by decide) ?_
  exact Tl _ _ ⟨(Inv.go hI1 hcn (mn_way hM w_76)), (rel_way hRe rfl w_70 w_76).1, (EN.ex (hEn.ex (K3.cf hcn.1)) (k3_way w_76)), Rel6.go hR6 hcn (mn_way hM w_76) (w6_way w_70) (v6_way w_76) p0_k⟩ _ _ _ hR hS hl
set_option maxHeartbeats 4000000 in
set_option maxRecDepth 100000 in
theorem law_c7 {p : Program} {l : Launch} {e : Env} {s : State} {m : MethodId} {below : List Frame} {meth : Method} {c : Code} {G : Gx} {b L : Nat} {xs : Nat → Int32} (hL : L ≤ 2560) (C0 : lw_At p s m meth c b L xs) (hC : Cx p s m #[Value.ref b] meth c cL_law 4 RL ret) (hK : KU G s) (hG : GOk G (fun q : Nat => s.heap.size ≤ q)) {i : Nat} {σ : SI} {τ : SL} {H : Heap} {locs : List Loc} {ls : Array Slot} (hi5 : i + 5 ≤ L) (hI : Inv6 σ) (hR : RepH G σ τ H) (hS : va_S (fun q : Nat => s.heap.size ≤ q) s.heap H locs) (hl : lv_has ls 4 [(3, .int (nI i)), (0, .ref b), (1, .ref (G.2.1 0)), (2, .ref (G.2.1 35))])
    (Tl : ∀ (σ : SI) (τ : SL), Inv6 σ → ∀ (H : Heap) (locs : List Loc) (ls : Array Slot), RepH G σ τ H → va_S (fun q : Nat => s.heap.size ≤ q) s.heap H locs → lv_has ls 4 [(3, .int (nI i)), (0, .ref b), (1, .ref (G.2.1 0)), (2, .ref (G.2.1 35))] → W p l e room_1 s m #[Value.ref b] below meth c H locs 600000 7302250 (lw_Z below #[Value.ref b] s) (F0 m 1020 ls [])) : W p l e room_1 s m #[Value.ref b] below meth c H locs 600000 7302250 (lw_Z below #[Value.ref b] s) (F0 m 381 ls []) := by
  obtain ⟨hx, hb, hr, hml, hown, hts, hX, hbl, hlocks, hgv⟩ := id C0
  have hbA : ¬ (fun q : Nat => s.heap.size ≤ q) b := Nat.not_le.mpr hbl
  obtain ⟨hI1, hRe, hEn, hR6⟩ := id hI
  obtain ⟨hIM, hIC, hRL⟩ := id hI1
  have hnI := nI_T i (by omega)
  have hnow : 0 ≤ (σ 0 8).toInt ∧ (σ 0 8).toInt ≤ 200 := by rw [hRL.1]; exact hIM.1
  have hoff : -1000000 ≤ (σ 0 12).toInt ∧ (σ 0 12).toInt ≤ 1000000 := by rw [hRL.2.2]; exact hIM.2.2.2.2.2.2.1
  have hpc : 0 ≤ (σ 0 11).toInt ∧ (σ 0 11).toInt ≤ 3599 := by rw [hRL.2.1]; exact hIM.2.2.2.2.2.2.2
  have hin1 : vp_in (nI i + (1 : Int32)) L := vin (t := (i : Int) + 1) (addI hnI (by decide) (by omega) (by omega)) (by omega) (by omega)
  have hin2 : vp_in (nI i + (2 : Int32)) L := vin (t := (i : Int) + 2) (addI hnI (by decide) (by omega) (by omega)) (by omega) (by omega)
  have hin3 : vp_in (nI i + (3 : Int32)) L := vin (t := (i : Int) + 3) (addI hnI (by decide) (by omega) (by omega)) (by omega) (by omega)
  have hin4 : vp_in (nI i + (4 : Int32)) L := vin (t := (i : Int) + 4) (addI hnI (by decide) (by omega) (by omega)) (by omega) (by omega)
  have hk6 := hk6_of hI
  have hMP := mpre_of hR6
  refine lv_aload_n hx hb dL_law_381 rfl (lv_at hl 2 rfl) ?_
  refine lv_aload_n hx hb dL_law_382 rfl (lv_at hl 1 rfl) ?_
  refine lv_iload_n hx hb dL_law_383 rfl (lv_at hl 0 rfl) ?_
  refine lv_iconst (v := 1) hx hb dL_law_384 (by decide) ?_
  refine lv_iadd hx hb dL_law_385 ?_
  refine va_sld hx hb hX hbl hbA hS hin1 dL_law_386 ?_
  refine lv_topi (fun a_79 e_a_79 => ?_)
  refine lv_aload_n hx hb dL_law_387 rfl (lv_at hl 1 rfl) ?_
  refine lv_iload_n hx hb dL_law_388 rfl (lv_at hl 0 rfl) ?_
  refine lv_iconst (v := 2) hx hb dL_law_389 (by decide) ?_
  refine lv_iadd hx hb dL_law_390 ?_
  refine va_sld hx hb hX hbl hbA hS hin2 dL_law_391 ?_
  refine lv_topi (fun a_80 e_a_80 => ?_)
  refine goip (runV (As := [.int a_79, .int a_80]) (rest := []) hC hK hR hl.1 (c_X9_tells l hG σ τ a_79 a_79.toInt.toNat rfl a_80 ) (call_b hC.ts TC_X9_tells TN_X9 TM_L_44 hd_X9_tells ⟨Nat.le_of_ble_eq_true rfl, Nat.le_of_ble_eq_true rfl⟩) TI_X9_tells TS_X9_tells (ct_bench G _ _) rfl rfl rfl (Nat.le_of_ble_eq_true rfl) dL_law_392 ⟨Nat.le_of_ble_eq_true rfl, Nat.le_of_ble_eq_true rfl⟩) hS (fun v_81 H locs w_82 hR hS => ?_)
  refine lv_pop hx hb dL_law_395 rfl ?_
  refine lv_aload_n hx hb dL_law_396 rfl (lv_at hl 3 rfl) ?_
  refine lv_aload_n hx hb dL_law_397 rfl (lv_at hl 1 rfl) ?_
  refine lv_iload_n hx hb dL_law_398 rfl (lv_at hl 0 rfl) ?_
  refine lv_iconst (v := 1) hx hb dL_law_399 (by decide) ?_
  refine lv_iadd hx hb dL_law_400 ?_
  refine va_sld hx hb hX hbl hbA hS hin1 dL_law_401 ?_
  rw [← e_a_79]
  refine lv_aload_n hx hb dL_law_402 rfl (lv_at hl 1 rfl) ?_
  refine lv_iload_n hx hb dL_law_403 rfl (lv_at hl 0 rfl) ?_
  refine lv_iconst (v := 2) hx hb dL_law_404 (by decide) ?_
  refine lv_iadd hx hb dL_law_405 ?_
  refine va_sld hx hb hX hbl hbA hS hin2 dL_law_406 ?_
  rw [← e_a_80]
  refine goip (runV (As := [.int a_79, .int a_80]) (rest := []) hC hK hR hl.1 (c_X10_tells l hG σ τ a_79 a_79.toInt.toNat rfl a_80 a_80.toInt.toNat rfl (hIM.1)) (call_b hC.ts TC_X10_tells TN_X10 TM_L_47 hd_X10_tells ⟨Nat.le_of_ble_eq_true rfl, Nat.le_of_ble_eq_true rfl⟩) TI_X10_tells TS_X10_tells (ct_model G _ _) rfl rfl rfl (Nat.le_of_ble_eq_true rfl) dL_law_407 ⟨Nat.le_of_ble_eq_true rfl, Nat.le_of_ble_eq_true rfl⟩) hS (fun v_85 H locs w_86 hR hS => ?_)
  refine lv_pop hx hb dL_law_410 rfl ?_
  refine lv_goto (tgt := 1020) hx hb dL_law_411 (by decide) ?_
  exact Tl _ _ hI _ _ _ hR hS hl
set_option maxHeartbeats 4000000 in
set_option maxRecDepth 100000 in
theorem law_c8 {p : Program} {l : Launch} {e : Env} {s : State} {m : MethodId} {below : List Frame} {meth : Method} {c : Code} {G : Gx} {b L : Nat} {xs : Nat → Int32} (hL : L ≤ 2560) (C0 : lw_At p s m meth c b L xs) (hC : Cx p s m #[Value.ref b] meth c cL_law 4 RL ret) (hK : KU G s) (hG : GOk G (fun q : Nat => s.heap.size ≤ q)) {i : Nat} {σ : SI} {τ : SL} {H : Heap} {locs : List Loc} {ls : Array Slot} (hi5 : i + 5 ≤ L) (hI : Inv6 σ) (hR : RepH G σ τ H) (hS : va_S (fun q : Nat => s.heap.size ≤ q) s.heap H locs) (hl : lv_has ls 4 [(3, .int (nI i)), (0, .ref b), (1, .ref (G.2.1 0)), (2, .ref (G.2.1 35))])
    (Tl : ∀ (σ : SI) (τ : SL), Inv6 σ → ∀ (H : Heap) (locs : List Loc) (ls : Array Slot), RepH G σ τ H → va_S (fun q : Nat => s.heap.size ≤ q) s.heap H locs → lv_has ls 4 [(3, .int (nI i)), (0, .ref b), (1, .ref (G.2.1 0)), (2, .ref (G.2.1 35))] → W p l e room_1 s m #[Value.ref b] below meth c H locs 600000 7302250 (lw_Z below #[Value.ref b] s) (F0 m 1020 ls [])) : W p l e room_1 s m #[Value.ref b] below meth c H locs 600000 7302250 (lw_Z below #[Value.ref b] s) (F0 m 414 ls []) := by
  obtain ⟨hx, hb, hr, hml, hown, hts, hX, hbl, hlocks, hgv⟩ := id C0
  have hbA : ¬ (fun q : Nat => s.heap.size ≤ q) b := Nat.not_le.mpr hbl
  obtain ⟨hI1, hRe, hEn, hR6⟩ := id hI
  obtain ⟨hIM, hIC, hRL⟩ := id hI1
  have hnI := nI_T i (by omega)
  have hnow : 0 ≤ (σ 0 8).toInt ∧ (σ 0 8).toInt ≤ 200 := by rw [hRL.1]; exact hIM.1
  have hoff : -1000000 ≤ (σ 0 12).toInt ∧ (σ 0 12).toInt ≤ 1000000 := by rw [hRL.2.2]; exact hIM.2.2.2.2.2.2.1
  have hpc : 0 ≤ (σ 0 11).toInt ∧ (σ 0 11).toInt ≤ 3599 := by rw [hRL.2.1]; exact hIM.2.2.2.2.2.2.2
  have hin1 : vp_in (nI i + (1 : Int32)) L := vin (t := (i : Int) + 1) (addI hnI (by decide) (by omega) (by omega)) (by omega) (by omega)
  have hin2 : vp_in (nI i + (2 : Int32)) L := vin (t := (i : Int) + 2) (addI hnI (by decide) (by omega) (by omega)) (by omega) (by omega)
  have hin3 : vp_in (nI i + (3 : Int32)) L := vin (t := (i : Int) + 3) (addI hnI (by decide) (by omega) (by omega)) (by omega) (by omega)
  have hin4 : vp_in (nI i + (4 : Int32)) L := vin (t := (i : Int) + 4) (addI hnI (by decide) (by omega) (by omega)) (by omega) (by omega)
  have hk6 := hk6_of hI
  have hMP := mpre_of hR6
  refine lv_aload_n hx hb dL_law_414 rfl (lv_at hl 2 rfl) ?_
  refine lv_aload_n hx hb dL_law_415 rfl (lv_at hl 1 rfl) ?_
  refine lv_iload_n hx hb dL_law_416 rfl (lv_at hl 0 rfl) ?_
  refine lv_iconst (v := 1) hx hb dL_law_417 (by decide) ?_
  refine lv_iadd hx hb dL_law_418 ?_
  refine va_sld hx hb hX hbl hbA hS hin1 dL_law_419 ?_
  refine lv_topi (fun a_87 e_a_87 => ?_)
  refine lv_aload_n hx hb dL_law_420 rfl (lv_at hl 1 rfl) ?_
  refine lv_iload_n hx hb dL_law_421 rfl (lv_at hl 0 rfl) ?_
  refine lv_iconst (v := 2) hx hb dL_law_422 (by decide) ?_
  refine lv_iadd hx hb dL_law_423 ?_
  refine va_sld hx hb hX hbl hbA hS hin2 dL_law_424 ?_
  refine lv_topi (fun a_88 e_a_88 => ?_)
  refine lv_aload_n hx hb dL_law_425 rfl (lv_at hl 1 rfl) ?_
  refine lv_iload_n hx hb dL_law_426 rfl (lv_at hl 0 rfl) ?_
  refine lv_iconst (v := 3) hx hb dL_law_427 (by decide) ?_
  refine lv_iadd hx hb dL_law_428 ?_
  refine va_sld hx hb hX hbl hbA hS hin3 dL_law_429 ?_
  refine lv_topi (fun a_89 e_a_89 => ?_)
  refine goi (runV (As := [.int a_87, .int a_88, .int a_89]) (rest := []) hC hK hR hl.1 (c_X9_difference l hG σ τ a_87 a_87.toInt.toNat rfl a_88 a_88.toInt.toNat rfl a_89 ) (call_b hC.ts TC_X9_difference TN_X9 TM_L_48 hd_X9_difference ⟨Nat.le_of_ble_eq_true rfl, Nat.le_of_ble_eq_true rfl⟩) TI_X9_difference TS_X9_difference (ct_bench G _ _) rfl rfl rfl (Nat.le_of_ble_eq_true rfl) dL_law_430 ⟨Nat.le_of_ble_eq_true rfl, Nat.le_of_ble_eq_true rfl⟩) hS (fun v_90 s_92 t_93 H locs w_91 hR hS => ?_)
  have hcn := cn_difference hIC w_91
  have hM := hIM.fr hcn.1
  refine lv_pop hx hb dL_law_433 rfl ?_
  refine lv_aload_n hx hb dL_law_434 rfl (lv_at hl 3 rfl) ?_
  refine lv_aload_n hx hb dL_law_435 rfl (lv_at hl 1 rfl) ?_
  refine lv_iload_n hx hb dL_law_436 rfl (lv_at hl 0 rfl) ?_
  refine lv_iconst (v := 1) hx hb dL_law_437 (by decide) ?_
  refine lv_iadd hx hb dL_law_438 ?_
  refine va_sld hx hb hX hbl hbA hS hin1 dL_law_439 ?_
  rw [← e_a_87]
  refine lv_aload_n hx hb dL_law_440 rfl (lv_at hl 1 rfl) ?_
  refine lv_iload_n hx hb dL_law_441 rfl (lv_at hl 0 rfl) ?_
  refine lv_iconst (v := 2) hx hb dL_law_442 (by decide) ?_
  refine lv_iadd hx hb dL_law_443 ?_
  refine va_sld hx hb hX hbl hbA hS hin2 dL_law_444 ?_
  rw [← e_a_88]
  refine lv_aload_n hx hb dL_law_445 rfl (lv_at hl 1 rfl) ?_
  refine lv_iload_n hx hb dL_law_446 rfl (lv_at hl 0 rfl) ?_
  refine lv_iconst (v := 3) hx hb dL_law_447 (by decide) ?_
  refine lv_iadd hx hb dL_law_448 ?_
  refine va_sld hx hb hX hbl hbA hS hin3 dL_law_449 ?_
  rw [← e_a_89]
  refine goi (runV (As := [.int a_87, .int a_88, .int a_89]) (rest := []) hC hK hR hl.1 (c_X10_difference l hG s_92 t_93 a_87 a_87.toInt.toNat rfl a_88 a_88.toInt.toNat rfl a_89 a_89.toInt.toNat rfl (hM.1) (hM.2.1)) (call_b hC.ts TC_X10_difference TN_X10 TM_L_52 hd_X10_difference ⟨Nat.le_of_ble_eq_true rfl, Nat.le_of_ble_eq_true rfl⟩) TI_X10_difference TS_X10_difference (ct_model G _ _) rfl rfl rfl (Nat.le_of_ble_eq_true rfl) dL_law_450 ⟨Nat.le_of_ble_eq_true rfl, Nat.le_of_ble_eq_true rfl⟩) hS (fun v_97 s_99 t_100 H locs w_98 hR hS => ?_)
  refine lv_pop hx hb dL_law_453 rfl ?_
  refine lv_goto (tgt := 1020) hx hb dL_law_454 (by decide) ?_
  exact Tl _ _ ⟨(Inv.go hI1 hcn (mn_difference hM w_98)), rel_difference hRe w_91 w_98, (EN.ex (hEn.ex (K3.cf hcn.1)) (K3.mr w_98 (by first | omega | (dsimp only; omega)) (by first | omega | (dsimp only; omega)) (by first | omega | (dsimp only; omega)))), Rel6.go hR6 hcn (mn_difference hM w_98) (w6_difference w_91) (v6_difference w_98) p0_k⟩ _ _ _ hR hS hl
set_option maxHeartbeats 4000000 in
set_option maxRecDepth 100000 in
theorem law_c9 {p : Program} {l : Launch} {e : Env} {s : State} {m : MethodId} {below : List Frame} {meth : Method} {c : Code} {G : Gx} {b L : Nat} {xs : Nat → Int32} (hL : L ≤ 2560) (C0 : lw_At p s m meth c b L xs) (hC : Cx p s m #[Value.ref b] meth c cL_law 4 RL ret) (hK : KU G s) (hG : GOk G (fun q : Nat => s.heap.size ≤ q)) {i : Nat} {σ : SI} {τ : SL} {H : Heap} {locs : List Loc} {ls : Array Slot} (hi5 : i + 5 ≤ L) (hI : Inv6 σ) (hR : RepH G σ τ H) (hS : va_S (fun q : Nat => s.heap.size ≤ q) s.heap H locs) (hl : lv_has ls 4 [(3, .int (nI i)), (0, .ref b), (1, .ref (G.2.1 0)), (2, .ref (G.2.1 35))])
    (Tl : ∀ (σ : SI) (τ : SL), Inv6 σ → ∀ (H : Heap) (locs : List Loc) (ls : Array Slot), RepH G σ τ H → va_S (fun q : Nat => s.heap.size ≤ q) s.heap H locs → lv_has ls 4 [(3, .int (nI i)), (0, .ref b), (1, .ref (G.2.1 0)), (2, .ref (G.2.1 35))] → W p l e room_1 s m #[Value.ref b] below meth c H locs 600000 7302250 (lw_Z below #[Value.ref b] s) (F0 m 1020 ls [])) : W p l e room_1 s m #[Value.ref b] below meth c H locs 600000 7302250 (lw_Z below #[Value.ref b] s) (F0 m 457 ls []) := by
  obtain ⟨hx, hb, hr, hml, hown, hts, hX, hbl, hlocks, hgv⟩ := id C0
  have hbA : ¬ (fun q : Nat => s.heap.size ≤ q) b := Nat.not_le.mpr hbl
  obtain ⟨hI1, hRe, hEn, hR6⟩ := id hI
  obtain ⟨hIM, hIC, hRL⟩ := id hI1
  have hnI := nI_T i (by omega)
  have hnow : 0 ≤ (σ 0 8).toInt ∧ (σ 0 8).toInt ≤ 200 := by rw [hRL.1]; exact hIM.1
  have hoff : -1000000 ≤ (σ 0 12).toInt ∧ (σ 0 12).toInt ≤ 1000000 := by rw [hRL.2.2]; exact hIM.2.2.2.2.2.2.1
  have hpc : 0 ≤ (σ 0 11).toInt ∧ (σ 0 11).toInt ≤ 3599 := by rw [hRL.2.1]; exact hIM.2.2.2.2.2.2.2
  have hin1 : vp_in (nI i + (1 : Int32)) L := vin (t := (i : Int) + 1) (addI hnI (by decide) (by omega) (by omega)) (by omega) (by omega)
  have hin2 : vp_in (nI i + (2 : Int32)) L := vin (t := (i : Int) + 2) (addI hnI (by decide) (by omega) (by omega)) (by omega) (by omega)
  have hin3 : vp_in (nI i + (3 : Int32)) L := vin (t := (i : Int) + 3) (addI hnI (by decide) (by omega) (by omega)) (by omega) (by omega)
  have hin4 : vp_in (nI i + (4 : Int32)) L := vin (t := (i : Int) + 4) (addI hnI (by decide) (by omega) (by omega)) (by omega) (by omega)
  have hk6 := hk6_of hI
  have hMP := mpre_of hR6
  refine lv_aload_n hx hb dL_law_457 rfl (lv_at hl 2 rfl) ?_
  refine lv_aload_n hx hb dL_law_458 rfl (lv_at hl 1 rfl) ?_
  refine lv_iload_n hx hb dL_law_459 rfl (lv_at hl 0 rfl) ?_
  refine lv_iconst (v := 1) hx hb dL_law_460 (by decide) ?_
  refine lv_iadd hx hb dL_law_461 ?_
  refine va_sld hx hb hX hbl hbA hS hin1 dL_law_462 ?_
  refine lv_topi (fun a_101 e_a_101 => ?_)
  refine lv_aload_n hx hb dL_law_463 rfl (lv_at hl 1 rfl) ?_
  refine lv_iload_n hx hb dL_law_464 rfl (lv_at hl 0 rfl) ?_
  refine lv_iconst (v := 2) hx hb dL_law_465 (by decide) ?_
  refine lv_iadd hx hb dL_law_466 ?_
  refine va_sld hx hb hX hbl hbA hS hin2 dL_law_467 ?_
  refine lv_topi (fun a_102 e_a_102 => ?_)
  refine lv_aload_n hx hb dL_law_468 rfl (lv_at hl 1 rfl) ?_
  refine lv_iload_n hx hb dL_law_469 rfl (lv_at hl 0 rfl) ?_
  refine lv_iconst (v := 3) hx hb dL_law_470 (by decide) ?_
  refine lv_iadd hx hb dL_law_471 ?_
  refine va_sld hx hb hX hbl hbA hS hin3 dL_law_472 ?_
  refine lv_topi (fun a_103 e_a_103 => ?_)
  refine goi (runV (As := [.int a_101, .int a_102, .int a_103]) (rest := []) hC hK hR hl.1 (c_X9_along l hG σ τ a_101 a_101.toInt.toNat rfl a_102 a_102.toInt.toNat rfl a_103 ) (call_b hC.ts TC_X9_along TN_X9 TM_L_53 hd_X9_along ⟨Nat.le_of_ble_eq_true rfl, Nat.le_of_ble_eq_true rfl⟩) TI_X9_along TS_X9_along (ct_bench G _ _) rfl rfl rfl (Nat.le_of_ble_eq_true rfl) dL_law_473 ⟨Nat.le_of_ble_eq_true rfl, Nat.le_of_ble_eq_true rfl⟩) hS (fun v_104 s_106 t_107 H locs w_105 hR hS => ?_)
  have hcn := cn_along hIC w_105
  have hM := hIM.fr hcn.1
  refine lv_pop hx hb dL_law_476 rfl ?_
  refine lv_aload_n hx hb dL_law_477 rfl (lv_at hl 3 rfl) ?_
  refine lv_aload_n hx hb dL_law_478 rfl (lv_at hl 1 rfl) ?_
  refine lv_iload_n hx hb dL_law_479 rfl (lv_at hl 0 rfl) ?_
  refine lv_iconst (v := 1) hx hb dL_law_480 (by decide) ?_
  refine lv_iadd hx hb dL_law_481 ?_
  refine va_sld hx hb hX hbl hbA hS hin1 dL_law_482 ?_
  rw [← e_a_101]
  refine lv_aload_n hx hb dL_law_483 rfl (lv_at hl 1 rfl) ?_
  refine lv_iload_n hx hb dL_law_484 rfl (lv_at hl 0 rfl) ?_
  refine lv_iconst (v := 2) hx hb dL_law_485 (by decide) ?_
  refine lv_iadd hx hb dL_law_486 ?_
  refine va_sld hx hb hX hbl hbA hS hin2 dL_law_487 ?_
  rw [← e_a_102]
  refine lv_aload_n hx hb dL_law_488 rfl (lv_at hl 1 rfl) ?_
  refine lv_iload_n hx hb dL_law_489 rfl (lv_at hl 0 rfl) ?_
  refine lv_iconst (v := 3) hx hb dL_law_490 (by decide) ?_
  refine lv_iadd hx hb dL_law_491 ?_
  refine va_sld hx hb hX hbl hbA hS hin3 dL_law_492 ?_
  rw [← e_a_103]
  refine goi (runV (As := [.int a_101, .int a_102, .int a_103]) (rest := []) hC hK hR hl.1 (c_X10_along l hG s_106 t_107 a_101 a_101.toInt.toNat rfl a_102 a_102.toInt.toNat rfl a_103 a_103.toInt.toNat rfl (hM.1) (hM.2.1) (hM.2.2.2.2.2.1)) (call_b hC.ts TC_X10_along TN_X10 TM_L_56 hd_X10_along ⟨Nat.le_of_ble_eq_true rfl, Nat.le_of_ble_eq_true rfl⟩) TI_X10_along TS_X10_along (ct_model G _ _) rfl rfl rfl (Nat.le_of_ble_eq_true rfl) dL_law_493 ⟨Nat.le_of_ble_eq_true rfl, Nat.le_of_ble_eq_true rfl⟩) hS (fun v_111 s_113 t_114 H locs w_112 hR hS => ?_)
  refine lv_pop hx hb dL_law_496 rfl ?_
  refine lv_goto (tgt := 1020) hx hb dL_law_497 (by decide) ?_
  exact Tl _ _ ⟨(Inv.go hI1 hcn (mn_along hM w_112)), rel_along hRe w_105 w_112, (EN.ex (hEn.ex (K3.cf hcn.1)) (K3.mr w_112.1 (by first | omega | (dsimp only; omega)) (by first | omega | (dsimp only; omega)) (by first | omega | (dsimp only; omega)))), Rel6.go hR6 hcn (mn_along hM w_112) (w6_along w_105) (v6_along w_112) p0_k⟩ _ _ _ hR hS hl
set_option maxHeartbeats 4000000 in
set_option maxRecDepth 100000 in
theorem law_c10 {p : Program} {l : Launch} {e : Env} {s : State} {m : MethodId} {below : List Frame} {meth : Method} {c : Code} {G : Gx} {b L : Nat} {xs : Nat → Int32} (hL : L ≤ 2560) (C0 : lw_At p s m meth c b L xs) (hC : Cx p s m #[Value.ref b] meth c cL_law 4 RL ret) (hK : KU G s) (hG : GOk G (fun q : Nat => s.heap.size ≤ q)) {i : Nat} {σ : SI} {τ : SL} {H : Heap} {locs : List Loc} {ls : Array Slot} (hi5 : i + 5 ≤ L) (hI : Inv6 σ) (hR : RepH G σ τ H) (hS : va_S (fun q : Nat => s.heap.size ≤ q) s.heap H locs) (hl : lv_has ls 4 [(3, .int (nI i)), (0, .ref b), (1, .ref (G.2.1 0)), (2, .ref (G.2.1 35))])
    (Tl : ∀ (σ : SI) (τ : SL), Inv6 σ → ∀ (H : Heap) (locs : List Loc) (ls : Array Slot), RepH G σ τ H → va_S (fun q : Nat => s.heap.size ≤ q) s.heap H locs → lv_has ls 4 [(3, .int (nI i)), (0, .ref b), (1, .ref (G.2.1 0)), (2, .ref (G.2.1 35))] → W p l e room_1 s m #[Value.ref b] below meth c H locs 600000 7302250 (lw_Z below #[Value.ref b] s) (F0 m 1020 ls [])) : W p l e room_1 s m #[Value.ref b] below meth c H locs 600000 7302250 (lw_Z below #[Value.ref b] s) (F0 m 500 ls []) := by
  obtain ⟨hx, hb, hr, hml, hown, hts, hX, hbl, hlocks, hgv⟩ := id C0
  have hbA : ¬ (fun q : Nat => s.heap.size ≤ q) b := Nat.not_le.mpr hbl
  obtain ⟨hI1, hRe, hEn, hR6⟩ := id hI
  obtain ⟨hIM, hIC, hRL⟩ := id hI1
  have hnI := nI_T i (by omega)
  have hnow : 0 ≤ (σ 0 8).toInt ∧ (σ 0 8).toInt ≤ 200 := by rw [hRL.1]; exact hIM.1
  have hoff : -1000000 ≤ (σ 0 12).toInt ∧ (σ 0 12).toInt ≤ 1000000 := by rw [hRL.2.2]; exact hIM.2.2.2.2.2.2.1
  have hpc : 0 ≤ (σ 0 11).toInt ∧ (σ 0 11).toInt ≤ 3599 := by rw [hRL.2.1]; exact hIM.2.2.2.2.2.2.2
  have hin1 : vp_in (nI i + (1 : Int32)) L := vin (t := (i : Int) + 1) (addI hnI (by decide) (by omega) (by omega)) (by omega) (by omega)
  have hin2 : vp_in (nI i + (2 : Int32)) L := vin (t := (i : Int) + 2) (addI hnI (by decide) (by omega) (by omega)) (by omega) (by omega)
  have hin3 : vp_in (nI i + (3 : Int32)) L := vin (t := (i : Int) + 3) (addI hnI (by decide) (by omega) (by omega)) (by omega) (by omega)
  have hin4 : vp_in (nI i + (4 : Int32)) L := vin (t := (i : Int) + 4) (addI hnI (by decide) (by omega) (by omega)) (by omega) (by omega)
  have hk6 := hk6_of hI
  have hMP := mpre_of hR6
  refine lv_aload_n hx hb dL_law_500 rfl (lv_at hl 2 rfl) ?_
  refine lv_aload_n hx hb dL_law_501 rfl (lv_at hl 1 rfl) ?_
  refine lv_iload_n hx hb dL_law_502 rfl (lv_at hl 0 rfl) ?_
  refine lv_iconst (v := 1) hx hb dL_law_503 (by decide) ?_
  refine lv_iadd hx hb dL_law_504 ?_
  refine va_sld hx hb hX hbl hbA hS hin1 dL_law_505 ?_
  refine lv_topi (fun a_115 e_a_115 => ?_)
  refine goip (runV (As := [.int a_115]) (rest := []) hC hK hR hl.1 (c_X9_link l hG σ τ a_115 ) (call_b hC.ts TC_X9_link TN_X9 TM_L_57 hd_X9_link ⟨Nat.le_of_ble_eq_true rfl, Nat.le_of_ble_eq_true rfl⟩) TI_X9_link TS_X9_link (ct_bench G _ _) rfl rfl rfl (Nat.le_of_ble_eq_true rfl) dL_law_506 ⟨Nat.le_of_ble_eq_true rfl, Nat.le_of_ble_eq_true rfl⟩) hS (fun v_116 H locs w_117 hR hS => ?_)
  refine lv_pop hx hb dL_law_509 rfl ?_
  refine lv_aload_n hx hb dL_law_510 rfl (lv_at hl 3 rfl) ?_
  refine lv_aload_n hx hb dL_law_511 rfl (lv_at hl 1 rfl) ?_
  refine lv_iload_n hx hb dL_law_512 rfl (lv_at hl 0 rfl) ?_
  refine lv_iconst (v := 1) hx hb dL_law_513 (by decide) ?_
  refine lv_iadd hx hb dL_law_514 ?_
  refine va_sld hx hb hX hbl hbA hS hin1 dL_law_515 ?_
  rw [← e_a_115]
  refine goip (runV (As := [.int a_115]) (rest := []) hC hK hR hl.1 (c_X10_link l hG σ τ a_115 (hIM.2.2.2.2.2.1)) (call_b hC.ts TC_X10_link TN_X10 TM_L_60 hd_X10_link ⟨Nat.le_of_ble_eq_true rfl, Nat.le_of_ble_eq_true rfl⟩) TI_X10_link TS_X10_link (ct_model G _ _) rfl rfl rfl (Nat.le_of_ble_eq_true rfl) dL_law_516 ⟨Nat.le_of_ble_eq_true rfl, Nat.le_of_ble_eq_true rfl⟩) hS (fun v_119 H locs w_120 hR hS => ?_)
  refine lv_pop hx hb dL_law_519 rfl ?_
  refine lv_goto (tgt := 1020) hx hb dL_law_520 (by decide) ?_
  exact Tl _ _ hI _ _ _ hR hS hl
set_option maxHeartbeats 4000000 in
set_option maxRecDepth 100000 in
theorem law_c11 {p : Program} {l : Launch} {e : Env} {s : State} {m : MethodId} {below : List Frame} {meth : Method} {c : Code} {G : Gx} {b L : Nat} {xs : Nat → Int32} (hL : L ≤ 2560) (C0 : lw_At p s m meth c b L xs) (hC : Cx p s m #[Value.ref b] meth c cL_law 4 RL ret) (hK : KU G s) (hG : GOk G (fun q : Nat => s.heap.size ≤ q)) {i : Nat} {σ : SI} {τ : SL} {H : Heap} {locs : List Loc} {ls : Array Slot} (hi5 : i + 5 ≤ L) (hI : Inv6 σ) (hR : RepH G σ τ H) (hS : va_S (fun q : Nat => s.heap.size ≤ q) s.heap H locs) (hl : lv_has ls 4 [(3, .int (nI i)), (0, .ref b), (1, .ref (G.2.1 0)), (2, .ref (G.2.1 35))])
    (Tl : ∀ (σ : SI) (τ : SL), Inv6 σ → ∀ (H : Heap) (locs : List Loc) (ls : Array Slot), RepH G σ τ H → va_S (fun q : Nat => s.heap.size ≤ q) s.heap H locs → lv_has ls 4 [(3, .int (nI i)), (0, .ref b), (1, .ref (G.2.1 0)), (2, .ref (G.2.1 35))] → W p l e room_1 s m #[Value.ref b] below meth c H locs 600000 7302250 (lw_Z below #[Value.ref b] s) (F0 m 1020 ls [])) : W p l e room_1 s m #[Value.ref b] below meth c H locs 600000 7302250 (lw_Z below #[Value.ref b] s) (F0 m 523 ls []) := by
  obtain ⟨hx, hb, hr, hml, hown, hts, hX, hbl, hlocks, hgv⟩ := id C0
  have hbA : ¬ (fun q : Nat => s.heap.size ≤ q) b := Nat.not_le.mpr hbl
  obtain ⟨hI1, hRe, hEn, hR6⟩ := id hI
  obtain ⟨hIM, hIC, hRL⟩ := id hI1
  have hnI := nI_T i (by omega)
  have hnow : 0 ≤ (σ 0 8).toInt ∧ (σ 0 8).toInt ≤ 200 := by rw [hRL.1]; exact hIM.1
  have hoff : -1000000 ≤ (σ 0 12).toInt ∧ (σ 0 12).toInt ≤ 1000000 := by rw [hRL.2.2]; exact hIM.2.2.2.2.2.2.1
  have hpc : 0 ≤ (σ 0 11).toInt ∧ (σ 0 11).toInt ≤ 3599 := by rw [hRL.2.1]; exact hIM.2.2.2.2.2.2.2
  have hin1 : vp_in (nI i + (1 : Int32)) L := vin (t := (i : Int) + 1) (addI hnI (by decide) (by omega) (by omega)) (by omega) (by omega)
  have hin2 : vp_in (nI i + (2 : Int32)) L := vin (t := (i : Int) + 2) (addI hnI (by decide) (by omega) (by omega)) (by omega) (by omega)
  have hin3 : vp_in (nI i + (3 : Int32)) L := vin (t := (i : Int) + 3) (addI hnI (by decide) (by omega) (by omega)) (by omega) (by omega)
  have hin4 : vp_in (nI i + (4 : Int32)) L := vin (t := (i : Int) + 4) (addI hnI (by decide) (by omega) (by omega)) (by omega) (by omega)
  have hk6 := hk6_of hI
  have hMP := mpre_of hR6
  refine lv_aload_n hx hb dL_law_523 rfl (lv_at hl 2 rfl) ?_
  refine lv_aload_n hx hb dL_law_524 rfl (lv_at hl 1 rfl) ?_
  refine lv_iload_n hx hb dL_law_525 rfl (lv_at hl 0 rfl) ?_
  refine lv_iconst (v := 1) hx hb dL_law_526 (by decide) ?_
  refine lv_iadd hx hb dL_law_527 ?_
  refine va_sld hx hb hX hbl hbA hS hin1 dL_law_528 ?_
  refine lv_topi (fun a_121 e_a_121 => ?_)
  refine goi (runV (As := [.int a_121]) (rest := []) hC hK hR hl.1 (c_X9_take l hG σ τ a_121 a_121.toInt.toNat rfl ) (call_b hC.ts TC_X9_take TN_X9 TM_L_61 hd_X9_take ⟨Nat.le_of_ble_eq_true rfl, Nat.le_of_ble_eq_true rfl⟩) TI_X9_take TS_X9_take (ct_bench G _ _) rfl rfl rfl (Nat.le_of_ble_eq_true rfl) dL_law_529 ⟨Nat.le_of_ble_eq_true rfl, Nat.le_of_ble_eq_true rfl⟩) hS (fun v_122 s_124 t_125 H locs w_123 hR hS => ?_)
  have hcn := cn_take hIC rfl w_123
  have hM := hIM.fr hcn.1
  refine lv_pop hx hb dL_law_532 rfl ?_
  refine lv_aload_n hx hb dL_law_533 rfl (lv_at hl 3 rfl) ?_
  refine lv_aload_n hx hb dL_law_534 rfl (lv_at hl 1 rfl) ?_
  refine lv_iload_n hx hb dL_law_535 rfl (lv_at hl 0 rfl) ?_
  refine lv_iconst (v := 1) hx hb dL_law_536 (by decide) ?_
  refine lv_iadd hx hb dL_law_537 ?_
  refine va_sld hx hb hX hbl hbA hS hin1 dL_law_538 ?_
  rw [← e_a_121]
  refine goi (runV (As := [.int a_121]) (rest := []) hC hK hR hl.1 (c_X10_take l hG s_124 t_125 a_121 a_121.toInt.toNat rfl ) (call_b hC.ts TC_X10_take TN_X10 TM_L_64 hd_X10_take ⟨Nat.le_of_ble_eq_true rfl, Nat.le_of_ble_eq_true rfl⟩) TI_X10_take TS_X10_take (ct_model G _ _) rfl rfl rfl (Nat.le_of_ble_eq_true rfl) dL_law_539 ⟨Nat.le_of_ble_eq_true rfl, Nat.le_of_ble_eq_true rfl⟩) hS (fun v_127 s_129 t_130 H locs w_128 hR hS => ?_)
  refine lv_pop hx hb dL_law_542 rfl ?_
  refine lv_goto (tgt := 1020) hx hb dL_law_543 (by decide) ?_
  exact Tl _ _ ⟨(Inv.go hI1 hcn (mn_take hM w_128)), (rel_take hRe rfl w_123 w_128).1, (EN.ex (hEn.ex (K3.cf hcn.1)) (k3_take w_128)), Rel6.go hR6 hcn (mn_take hM w_128) (w6_take w_123) (v6_take w_128) (k6_take hR6 hIM.1 hRL.1 hcn.1 hRe rfl w_123 w_128)⟩ _ _ _ hR hS hl
set_option maxHeartbeats 4000000 in
set_option maxRecDepth 100000 in
theorem law_c12 {p : Program} {l : Launch} {e : Env} {s : State} {m : MethodId} {below : List Frame} {meth : Method} {c : Code} {G : Gx} {b L : Nat} {xs : Nat → Int32} (hL : L ≤ 2560) (C0 : lw_At p s m meth c b L xs) (hC : Cx p s m #[Value.ref b] meth c cL_law 4 RL ret) (hK : KU G s) (hG : GOk G (fun q : Nat => s.heap.size ≤ q)) {i : Nat} {σ : SI} {τ : SL} {H : Heap} {locs : List Loc} {ls : Array Slot} (hi5 : i + 5 ≤ L) (hI : Inv6 σ) (hR : RepH G σ τ H) (hS : va_S (fun q : Nat => s.heap.size ≤ q) s.heap H locs) (hl : lv_has ls 4 [(3, .int (nI i)), (0, .ref b), (1, .ref (G.2.1 0)), (2, .ref (G.2.1 35))])
    (Tl : ∀ (σ : SI) (τ : SL), Inv6 σ → ∀ (H : Heap) (locs : List Loc) (ls : Array Slot), RepH G σ τ H → va_S (fun q : Nat => s.heap.size ≤ q) s.heap H locs → lv_has ls 4 [(3, .int (nI i)), (0, .ref b), (1, .ref (G.2.1 0)), (2, .ref (G.2.1 35))] → W p l e room_1 s m #[Value.ref b] below meth c H locs 600000 7302250 (lw_Z below #[Value.ref b] s) (F0 m 1020 ls [])) : W p l e room_1 s m #[Value.ref b] below meth c H locs 600000 7302250 (lw_Z below #[Value.ref b] s) (F0 m 546 ls []) := by
  obtain ⟨hx, hb, hr, hml, hown, hts, hX, hbl, hlocks, hgv⟩ := id C0
  have hbA : ¬ (fun q : Nat => s.heap.size ≤ q) b := Nat.not_le.mpr hbl
  obtain ⟨hI1, hRe, hEn, hR6⟩ := id hI
  obtain ⟨hIM, hIC, hRL⟩ := id hI1
  have hnI := nI_T i (by omega)
  have hnow : 0 ≤ (σ 0 8).toInt ∧ (σ 0 8).toInt ≤ 200 := by rw [hRL.1]; exact hIM.1
  have hoff : -1000000 ≤ (σ 0 12).toInt ∧ (σ 0 12).toInt ≤ 1000000 := by rw [hRL.2.2]; exact hIM.2.2.2.2.2.2.1
  have hpc : 0 ≤ (σ 0 11).toInt ∧ (σ 0 11).toInt ≤ 3599 := by rw [hRL.2.1]; exact hIM.2.2.2.2.2.2.2
  have hin1 : vp_in (nI i + (1 : Int32)) L := vin (t := (i : Int) + 1) (addI hnI (by decide) (by omega) (by omega)) (by omega) (by omega)
  have hin2 : vp_in (nI i + (2 : Int32)) L := vin (t := (i : Int) + 2) (addI hnI (by decide) (by omega) (by omega)) (by omega) (by omega)
  have hin3 : vp_in (nI i + (3 : Int32)) L := vin (t := (i : Int) + 3) (addI hnI (by decide) (by omega) (by omega)) (by omega) (by omega)
  have hin4 : vp_in (nI i + (4 : Int32)) L := vin (t := (i : Int) + 4) (addI hnI (by decide) (by omega) (by omega)) (by omega) (by omega)
  have hk6 := hk6_of hI
  have hMP := mpre_of hR6
  refine lv_aload_n hx hb dL_law_546 rfl (lv_at hl 2 rfl) ?_
  refine lv_aload_n hx hb dL_law_547 rfl (lv_at hl 1 rfl) ?_
  refine lv_iload_n hx hb dL_law_548 rfl (lv_at hl 0 rfl) ?_
  refine lv_iconst (v := 1) hx hb dL_law_549 (by decide) ?_
  refine lv_iadd hx hb dL_law_550 ?_
  refine va_sld hx hb hX hbl hbA hS hin1 dL_law_551 ?_
  refine lv_topi (fun a_131 e_a_131 => ?_)
  refine goi (runV (As := [.int a_131]) (rest := []) hC hK hR hl.1 (c_X9_leave l hG σ τ a_131 a_131.toInt.toNat rfl ) (call_b hC.ts TC_X9_leave TN_X9 TM_L_65 hd_X9_leave ⟨Nat.le_of_ble_eq_true rfl, Nat.le_of_ble_eq_true rfl⟩) TI_X9_leave TS_X9_leave (ct_bench G _ _) rfl rfl rfl (Nat.le_of_ble_eq_true rfl) dL_law_552 ⟨Nat.le_of_ble_eq_true rfl, Nat.le_of_ble_eq_true rfl⟩) hS (fun v_132 s_134 t_135 H locs w_133 hR hS => ?_)
  have hcn := cn_leave hIC rfl w_133
  have hM := hIM.fr hcn.1
  refine lv_pop hx hb dL_law_555 rfl ?_
  refine lv_aload_n hx hb dL_law_556 rfl (lv_at hl 3 rfl) ?_
  refine lv_aload_n hx hb dL_law_557 rfl (lv_at hl 1 rfl) ?_
  refine lv_iload_n hx hb dL_law_558 rfl (lv_at hl 0 rfl) ?_
  refine lv_iconst (v := 1) hx hb dL_law_559 (by decide) ?_
  refine lv_iadd hx hb dL_law_560 ?_
  refine va_sld hx hb hX hbl hbA hS hin1 dL_law_561 ?_
  rw [← e_a_131]
  refine goi (runV (As := [.int a_131]) (rest := []) hC hK hR hl.1 (c_X10_leave l hG s_134 t_135 a_131 a_131.toInt.toNat rfl ) (call_b hC.ts TC_X10_leave TN_X10 TM_L_68 hd_X10_leave ⟨Nat.le_of_ble_eq_true rfl, Nat.le_of_ble_eq_true rfl⟩) TI_X10_leave TS_X10_leave (ct_model G _ _) rfl rfl rfl (Nat.le_of_ble_eq_true rfl) dL_law_562 ⟨Nat.le_of_ble_eq_true rfl, Nat.le_of_ble_eq_true rfl⟩) hS (fun v_137 s_139 t_140 H locs w_138 hR hS => ?_)
  refine lv_pop hx hb dL_law_565 rfl ?_
  refine lv_goto (tgt := 1020) hx hb dL_law_566 (by decide) ?_
  exact Tl _ _ ⟨(Inv.go hI1 hcn (mn_leave hM w_138)), (rel_leave hRe rfl w_133 w_138).1, (EN.ex (hEn.ex (K3.cf hcn.1)) (k3_leave w_138)), Rel6.go hR6 hcn (mn_leave hM w_138) (w6_leave w_133) (v6_leave w_138) p0_k⟩ _ _ _ hR hS hl
set_option maxHeartbeats 4000000 in
set_option maxRecDepth 100000 in
theorem law_c13 {p : Program} {l : Launch} {e : Env} {s : State} {m : MethodId} {below : List Frame} {meth : Method} {c : Code} {G : Gx} {b L : Nat} {xs : Nat → Int32} (hL : L ≤ 2560) (C0 : lw_At p s m meth c b L xs) (hC : Cx p s m #[Value.ref b] meth c cL_law 4 RL ret) (hK : KU G s) (hG : GOk G (fun q : Nat => s.heap.size ≤ q)) {i : Nat} {σ : SI} {τ : SL} {H : Heap} {locs : List Loc} {ls : Array Slot} (hi5 : i + 5 ≤ L) (hI : Inv6 σ) (hR : RepH G σ τ H) (hS : va_S (fun q : Nat => s.heap.size ≤ q) s.heap H locs) (hl : lv_has ls 4 [(3, .int (nI i)), (0, .ref b), (1, .ref (G.2.1 0)), (2, .ref (G.2.1 35))])
    (Tl : ∀ (σ : SI) (τ : SL), Inv6 σ → ∀ (H : Heap) (locs : List Loc) (ls : Array Slot), RepH G σ τ H → va_S (fun q : Nat => s.heap.size ≤ q) s.heap H locs → lv_has ls 4 [(3, .int (nI i)), (0, .ref b), (1, .ref (G.2.1 0)), (2, .ref (G.2.1 35))] → W p l e room_1 s m #[Value.ref b] below meth c H locs 600000 7302250 (lw_Z below #[Value.ref b] s) (F0 m 1020 ls [])) : W p l e room_1 s m #[Value.ref b] below meth c H locs 600000 7302250 (lw_Z below #[Value.ref b] s) (F0 m 569 ls []) := by
  obtain ⟨hx, hb, hr, hml, hown, hts, hX, hbl, hlocks, hgv⟩ := id C0
  have hbA : ¬ (fun q : Nat => s.heap.size ≤ q) b := Nat.not_le.mpr hbl
  obtain ⟨hI1, hRe, hEn, hR6⟩ := id hI
  obtain ⟨hIM, hIC, hRL⟩ := id hI1
  have hnI := nI_T i (by omega)
  have hnow : 0 ≤ (σ 0 8).toInt ∧ (σ 0 8).toInt ≤ 200 := by rw [hRL.1]; exact hIM.1
  have hoff : -1000000 ≤ (σ 0 12).toInt ∧ (σ 0 12).toInt ≤ 1000000 := by rw [hRL.2.2]; exact hIM.2.2.2.2.2.2.1
  have hpc : 0 ≤ (σ 0 11).toInt ∧ (σ 0 11).toInt ≤ 3599 := by rw [hRL.2.1]; exact hIM.2.2.2.2.2.2.2
  have hin1 : vp_in (nI i + (1 : Int32)) L := vin (t := (i : Int) + 1) (addI hnI (by decide) (by omega) (by omega)) (by omega) (by omega)
  have hin2 : vp_in (nI i + (2 : Int32)) L := vin (t := (i : Int) + 2) (addI hnI (by decide) (by omega) (by omega)) (by omega) (by omega)
  have hin3 : vp_in (nI i + (3 : Int32)) L := vin (t := (i : Int) + 3) (addI hnI (by decide) (by omega) (by omega)) (by omega) (by omega)
  have hin4 : vp_in (nI i + (4 : Int32)) L := vin (t := (i : Int) + 4) (addI hnI (by decide) (by omega) (by omega)) (by omega) (by omega)
  have hk6 := hk6_of hI
  have hMP := mpre_of hR6
  refine lv_aload_n hx hb dL_law_569 rfl (lv_at hl 2 rfl) ?_
  refine lv_aload_n hx hb dL_law_570 rfl (lv_at hl 1 rfl) ?_
  refine lv_iload_n hx hb dL_law_571 rfl (lv_at hl 0 rfl) ?_
  refine lv_iconst (v := 1) hx hb dL_law_572 (by decide) ?_
  refine lv_iadd hx hb dL_law_573 ?_
  refine va_sld hx hb hX hbl hbA hS hin1 dL_law_574 ?_
  refine lv_topi (fun a_141 e_a_141 => ?_)
  refine lv_aload_n hx hb dL_law_575 rfl (lv_at hl 1 rfl) ?_
  refine lv_iload_n hx hb dL_law_576 rfl (lv_at hl 0 rfl) ?_
  refine lv_iconst (v := 2) hx hb dL_law_577 (by decide) ?_
  refine lv_iadd hx hb dL_law_578 ?_
  refine va_sld hx hb hX hbl hbA hS hin2 dL_law_579 ?_
  refine lv_topi (fun a_142 e_a_142 => ?_)
  refine bz_eq (tgt := 587) (a := a_142.toInt) (b := 0) hx hb rfl rfl dL_law_580 (by decide) (fun c_143 => ?_) (fun c_143 => ?_)
  · skip
    refine lv_iconst (v := 0) hx hb dL_law_587 (by decide) ?_
    refine goi (runV (As := [.int a_141, .int (0 : Int32)]) (rest := []) hC hK hR hl.1 (c_X9_call l hG σ τ a_141 a_141.toInt.toNat rfl (0 : Int32) (by first | exact Or.inl rfl | exact Or.inr rfl)) (call_b hC.ts TC_X9_call TN_X9 TM_L_69 hd_X9_call ⟨Nat.le_of_ble_eq_true rfl, Nat.le_of_ble_eq_true rfl⟩) TI_X9_call TS_X9_call (ct_bench G _ _) rfl rfl rfl (Nat.le_of_ble_eq_true rfl) dL_law_588 ⟨Nat.le_of_ble_eq_true rfl, Nat.le_of_ble_eq_true rfl⟩) hS (fun v_144 s_146 t_147 H locs w_145 hR hS => ?_)
    have hcn := cn_call hIC rfl w_145
    have hM := hIM.fr hcn.1
    refine lv_pop hx hb dL_law_591 rfl ?_
    refine lv_aload_n hx hb dL_law_592 rfl (lv_at hl 3 rfl) ?_
    refine lv_aload_n hx hb dL_law_593 rfl (lv_at hl 1 rfl) ?_
    refine lv_iload_n hx hb dL_law_594 rfl (lv_at hl 0 rfl) ?_
    refine lv_iconst (v := 1) hx hb dL_law_595 (by decide) ?_
    refine lv_iadd hx hb dL_law_596 ?_
    refine va_sld hx hb hX hbl hbA hS hin1 dL_law_597 ?_
    rw [← e_a_141]
    refine lv_aload_n hx hb dL_law_598 rfl (lv_at hl 1 rfl) ?_
    refine lv_iload_n hx hb dL_law_599 rfl (lv_at hl 0 rfl) ?_
    refine lv_iconst (v := 2) hx hb dL_law_600 (by decide) ?_
    refine lv_iadd hx hb dL_law_601 ?_
    refine va_sld hx hb hX hbl hbA hS hin2 dL_law_602 ?_
    rw [← e_a_142]
    refine bz_eq (tgt := 610) (a := a_142.toInt) (b := 0) hx hb rfl rfl dL_law_603 (by decide) (fun c_150 => ?_) (fun c_150 => ?_)
    · skip
      refine lv_iconst (v := 0) hx hb dL_law_610 (by decide) ?_
      refine goi (runV (As := [.int a_141, .int (0 : Int32)]) (rest := []) hC hK hR hl.1 (c_X10_call l hG s_146 t_147 a_141 a_141.toInt.toNat rfl (0 : Int32) (by first | exact Or.inl rfl | exact Or.inr rfl)) (call_b hC.ts TC_X10_call TN_X10 TM_L_73 hd_X10_call ⟨Nat.le_of_ble_eq_true rfl, Nat.le_of_ble_eq_true rfl⟩) TI_X10_call TS_X10_call (ct_model G _ _) rfl rfl rfl (Nat.le_of_ble_eq_true rfl) dL_law_611 ⟨Nat.le_of_ble_eq_true rfl, Nat.le_of_ble_eq_true rfl⟩) hS (fun v_151 s_153 t_154 H locs w_152 hR hS => ?_)
      refine lv_pop hx hb dL_law_614 rfl ?_
      refine lv_goto (tgt := 1020) hx hb dL_law_615 (by decide) ?_
      exact Tl _ _ ⟨(Inv.go hI1 hcn (mn_call hM w_152)), (rel_call hRe rfl w_145 w_152).1, (EN.ex (hEn.ex (K3.cf hcn.1)) (k3_call w_152)), Rel6.go hR6 hcn (mn_call hM w_152) (w6_call w_145) (v6_call w_152) p0_k⟩ _ _ _ hR hS hl
    · skip
      exfalso; omega
  · skip
    refine lv_iconst (v := 1) hx hb dL_law_583 (by decide) ?_
    refine lv_goto (tgt := 588) hx hb dL_law_584 (by decide) ?_
    refine goi (runV (As := [.int a_141, .int (1 : Int32)]) (rest := []) hC hK hR hl.1 (c_X9_call l hG σ τ a_141 a_141.toInt.toNat rfl (1 : Int32) (by first | exact Or.inl rfl | exact Or.inr rfl)) (call_b hC.ts TC_X9_call TN_X9 TM_L_69 hd_X9_call ⟨Nat.le_of_ble_eq_true rfl, Nat.le_of_ble_eq_true rfl⟩) TI_X9_call TS_X9_call (ct_bench G _ _) rfl rfl rfl (Nat.le_of_ble_eq_true rfl) dL_law_588 ⟨Nat.le_of_ble_eq_true rfl, Nat.le_of_ble_eq_true rfl⟩) hS (fun v_155 s_157 t_158 H locs w_156 hR hS => ?_)
    have hcn := cn_call hIC rfl w_156
    have hM := hIM.fr hcn.1
    refine lv_pop hx hb dL_law_591 rfl ?_
    refine lv_aload_n hx hb dL_law_592 rfl (lv_at hl 3 rfl) ?_
    refine lv_aload_n hx hb dL_law_593 rfl (lv_at hl 1 rfl) ?_
    refine lv_iload_n hx hb dL_law_594 rfl (lv_at hl 0 rfl) ?_
    refine lv_iconst (v := 1) hx hb dL_law_595 (by decide) ?_
    refine lv_iadd hx hb dL_law_596 ?_
    refine va_sld hx hb hX hbl hbA hS hin1 dL_law_597 ?_
    rw [← e_a_141]
    refine lv_aload_n hx hb dL_law_598 rfl (lv_at hl 1 rfl) ?_
    refine lv_iload_n hx hb dL_law_599 rfl (lv_at hl 0 rfl) ?_
    refine lv_iconst (v := 2) hx hb dL_law_600 (by decide) ?_
    refine lv_iadd hx hb dL_law_601 ?_
    refine va_sld hx hb hX hbl hbA hS hin2 dL_law_602 ?_
    rw [← e_a_142]
    refine bz_eq (tgt := 610) (a := a_142.toInt) (b := 0) hx hb rfl rfl dL_law_603 (by decide) (fun c_161 => ?_) (fun c_161 => ?_)
    · skip
      exfalso; omega
    · skip
      refine lv_iconst (v := 1) hx hb dL_law_606 (by decide) ?_
      refine lv_goto (tgt := 611) hx hb dL_law_607 (by decide) ?_
      refine goi (runV (As := [.int a_141, .int (1 : Int32)]) (rest := []) hC hK hR hl.1 (c_X10_call l hG s_157 t_158 a_141 a_141.toInt.toNat rfl (1 : Int32) (by first | exact Or.inl rfl | exact Or.inr rfl)) (call_b hC.ts TC_X10_call TN_X10 TM_L_73 hd_X10_call ⟨Nat.le_of_ble_eq_true rfl, Nat.le_of_ble_eq_true rfl⟩) TI_X10_call TS_X10_call (ct_model G _ _) rfl rfl rfl (Nat.le_of_ble_eq_true rfl) dL_law_611 ⟨Nat.le_of_ble_eq_true rfl, Nat.le_of_ble_eq_true rfl⟩) hS (fun v_162 s_164 t_165 H locs w_163 hR hS => ?_)
      refine lv_pop hx hb dL_law_614 rfl ?_
      refine lv_goto (tgt := 1020) hx hb dL_law_615 (by decide) ?_
      exact Tl _ _ ⟨(Inv.go hI1 hcn (mn_call hM w_163)), (rel_call hRe rfl w_156 w_163).1, (EN.ex (hEn.ex (K3.cf hcn.1)) (k3_call w_163)), Rel6.go hR6 hcn (mn_call hM w_163) (w6_call w_156) (v6_call w_163) p0_k⟩ _ _ _ hR hS hl
set_option maxHeartbeats 4000000 in
set_option maxRecDepth 100000 in
theorem law_c14 {p : Program} {l : Launch} {e : Env} {s : State} {m : MethodId} {below : List Frame} {meth : Method} {c : Code} {G : Gx} {b L : Nat} {xs : Nat → Int32} (hL : L ≤ 2560) (C0 : lw_At p s m meth c b L xs) (hC : Cx p s m #[Value.ref b] meth c cL_law 4 RL ret) (hK : KU G s) (hG : GOk G (fun q : Nat => s.heap.size ≤ q)) {i : Nat} {σ : SI} {τ : SL} {H : Heap} {locs : List Loc} {ls : Array Slot} (hi5 : i + 5 ≤ L) (hI : Inv6 σ) (hR : RepH G σ τ H) (hS : va_S (fun q : Nat => s.heap.size ≤ q) s.heap H locs) (hl : lv_has ls 4 [(3, .int (nI i)), (0, .ref b), (1, .ref (G.2.1 0)), (2, .ref (G.2.1 35))])
    (Tl : ∀ (σ : SI) (τ : SL), Inv6 σ → ∀ (H : Heap) (locs : List Loc) (ls : Array Slot), RepH G σ τ H → va_S (fun q : Nat => s.heap.size ≤ q) s.heap H locs → lv_has ls 4 [(3, .int (nI i)), (0, .ref b), (1, .ref (G.2.1 0)), (2, .ref (G.2.1 35))] → W p l e room_1 s m #[Value.ref b] below meth c H locs 600000 7302250 (lw_Z below #[Value.ref b] s) (F0 m 1020 ls [])) : W p l e room_1 s m #[Value.ref b] below meth c H locs 600000 7302250 (lw_Z below #[Value.ref b] s) (F0 m 618 ls []) := by
  obtain ⟨hx, hb, hr, hml, hown, hts, hX, hbl, hlocks, hgv⟩ := id C0
  have hbA : ¬ (fun q : Nat => s.heap.size ≤ q) b := Nat.not_le.mpr hbl
  obtain ⟨hI1, hRe, hEn, hR6⟩ := id hI
  obtain ⟨hIM, hIC, hRL⟩ := id hI1
  have hnI := nI_T i (by omega)
  have hnow : 0 ≤ (σ 0 8).toInt ∧ (σ 0 8).toInt ≤ 200 := by rw [hRL.1]; exact hIM.1
  have hoff : -1000000 ≤ (σ 0 12).toInt ∧ (σ 0 12).toInt ≤ 1000000 := by rw [hRL.2.2]; exact hIM.2.2.2.2.2.2.1
  have hpc : 0 ≤ (σ 0 11).toInt ∧ (σ 0 11).toInt ≤ 3599 := by rw [hRL.2.1]; exact hIM.2.2.2.2.2.2.2
  have hin1 : vp_in (nI i + (1 : Int32)) L := vin (t := (i : Int) + 1) (addI hnI (by decide) (by omega) (by omega)) (by omega) (by omega)
  have hin2 : vp_in (nI i + (2 : Int32)) L := vin (t := (i : Int) + 2) (addI hnI (by decide) (by omega) (by omega)) (by omega) (by omega)
  have hin3 : vp_in (nI i + (3 : Int32)) L := vin (t := (i : Int) + 3) (addI hnI (by decide) (by omega) (by omega)) (by omega) (by omega)
  have hin4 : vp_in (nI i + (4 : Int32)) L := vin (t := (i : Int) + 4) (addI hnI (by decide) (by omega) (by omega)) (by omega) (by omega)
  have hk6 := hk6_of hI
  have hMP := mpre_of hR6
  refine lv_aload_n hx hb dL_law_618 rfl (lv_at hl 2 rfl) ?_
  refine lv_aload_n hx hb dL_law_619 rfl (lv_at hl 1 rfl) ?_
  refine lv_iload_n hx hb dL_law_620 rfl (lv_at hl 0 rfl) ?_
  refine lv_iconst (v := 1) hx hb dL_law_621 (by decide) ?_
  refine lv_iadd hx hb dL_law_622 ?_
  refine va_sld hx hb hX hbl hbA hS hin1 dL_law_623 ?_
  refine lv_topi (fun a_166 e_a_166 => ?_)
  refine lv_aload_n hx hb dL_law_624 rfl (lv_at hl 1 rfl) ?_
  refine lv_iload_n hx hb dL_law_625 rfl (lv_at hl 0 rfl) ?_
  refine lv_iconst (v := 2) hx hb dL_law_626 (by decide) ?_
  refine lv_iadd hx hb dL_law_627 ?_
  refine va_sld hx hb hX hbl hbA hS hin2 dL_law_628 ?_
  refine lv_topi (fun a_167 e_a_167 => ?_)
  refine goi (runV (As := [.int a_166, .int a_167]) (rest := []) hC hK hR hl.1 (c_X9_steer l hG σ τ a_166 a_166.toInt.toNat rfl a_167 hIC) (call_b hC.ts TC_X9_steer TN_X9 TM_L_74 hd_X9_steer ⟨Nat.le_of_ble_eq_true rfl, Nat.le_of_ble_eq_true rfl⟩) TI_X9_steer TS_X9_steer (ct_bench G _ _) rfl rfl rfl (Nat.le_of_ble_eq_true rfl) dL_law_629 ⟨Nat.le_of_ble_eq_true rfl, Nat.le_of_ble_eq_true rfl⟩) hS (fun v_168 s_170 t_171 H locs w_169 hR hS => ?_)
  have hcn := cn_steer hIC rfl w_169
  have hM := hIM.fr hcn.1
  refine lv_pop hx hb dL_law_632 rfl ?_
  refine lv_aload_n hx hb dL_law_633 rfl (lv_at hl 3 rfl) ?_
  refine lv_aload_n hx hb dL_law_634 rfl (lv_at hl 1 rfl) ?_
  refine lv_iload_n hx hb dL_law_635 rfl (lv_at hl 0 rfl) ?_
  refine lv_iconst (v := 1) hx hb dL_law_636 (by decide) ?_
  refine lv_iadd hx hb dL_law_637 ?_
  refine va_sld hx hb hX hbl hbA hS hin1 dL_law_638 ?_
  rw [← e_a_166]
  refine lv_aload_n hx hb dL_law_639 rfl (lv_at hl 1 rfl) ?_
  refine lv_iload_n hx hb dL_law_640 rfl (lv_at hl 0 rfl) ?_
  refine lv_iconst (v := 2) hx hb dL_law_641 (by decide) ?_
  refine lv_iadd hx hb dL_law_642 ?_
  refine va_sld hx hb hX hbl hbA hS hin2 dL_law_643 ?_
  rw [← e_a_167]
  refine goi (runV (As := [.int a_166, .int a_167]) (rest := []) hC hK hR hl.1 (c_X10_steer l hG s_170 t_171 a_166 a_166.toInt.toNat rfl a_167 (hM.2.2.2.1)) (call_b hC.ts TC_X10_steer TN_X10 TM_L_77 hd_X10_steer ⟨Nat.le_of_ble_eq_true rfl, Nat.le_of_ble_eq_true rfl⟩) TI_X10_steer TS_X10_steer (ct_model G _ _) rfl rfl rfl (Nat.le_of_ble_eq_true rfl) dL_law_644 ⟨Nat.le_of_ble_eq_true rfl, Nat.le_of_ble_eq_true rfl⟩) hS (fun v_174 s_176 t_177 H locs w_175 hR hS => ?_)
  refine lv_pop hx hb dL_law_647 rfl ?_
  refine lv_goto (tgt := 1020) hx hb dL_law_648 (by decide) ?_
  exact Tl _ _ ⟨(Inv.go hI1 hcn (mn_steer hM w_175)), (rel_steer hRe rfl w_169 w_175).1, (EN.ex (hEn.ex (K3.cf hcn.1)) (k3_steer w_175)), Rel6.go hR6 hcn (mn_steer hM w_175) (w6_steer w_169) (v6_steer w_175) p0_k⟩ _ _ _ hR hS hl
set_option maxHeartbeats 4000000 in
set_option maxRecDepth 100000 in
theorem law_c15 {p : Program} {l : Launch} {e : Env} {s : State} {m : MethodId} {below : List Frame} {meth : Method} {c : Code} {G : Gx} {b L : Nat} {xs : Nat → Int32} (hL : L ≤ 2560) (C0 : lw_At p s m meth c b L xs) (hC : Cx p s m #[Value.ref b] meth c cL_law 4 RL ret) (hK : KU G s) (hG : GOk G (fun q : Nat => s.heap.size ≤ q)) {i : Nat} {σ : SI} {τ : SL} {H : Heap} {locs : List Loc} {ls : Array Slot} (hi5 : i + 5 ≤ L) (hI : Inv6 σ) (hR : RepH G σ τ H) (hS : va_S (fun q : Nat => s.heap.size ≤ q) s.heap H locs) (hl : lv_has ls 4 [(3, .int (nI i)), (0, .ref b), (1, .ref (G.2.1 0)), (2, .ref (G.2.1 35))])
    (Tl : ∀ (σ : SI) (τ : SL), Inv6 σ → ∀ (H : Heap) (locs : List Loc) (ls : Array Slot), RepH G σ τ H → va_S (fun q : Nat => s.heap.size ≤ q) s.heap H locs → lv_has ls 4 [(3, .int (nI i)), (0, .ref b), (1, .ref (G.2.1 0)), (2, .ref (G.2.1 35))] → W p l e room_1 s m #[Value.ref b] below meth c H locs 600000 7302250 (lw_Z below #[Value.ref b] s) (F0 m 1020 ls [])) : W p l e room_1 s m #[Value.ref b] below meth c H locs 600000 7302250 (lw_Z below #[Value.ref b] s) (F0 m 651 ls []) := by
  obtain ⟨hx, hb, hr, hml, hown, hts, hX, hbl, hlocks, hgv⟩ := id C0
  have hbA : ¬ (fun q : Nat => s.heap.size ≤ q) b := Nat.not_le.mpr hbl
  obtain ⟨hI1, hRe, hEn, hR6⟩ := id hI
  obtain ⟨hIM, hIC, hRL⟩ := id hI1
  have hnI := nI_T i (by omega)
  have hnow : 0 ≤ (σ 0 8).toInt ∧ (σ 0 8).toInt ≤ 200 := by rw [hRL.1]; exact hIM.1
  have hoff : -1000000 ≤ (σ 0 12).toInt ∧ (σ 0 12).toInt ≤ 1000000 := by rw [hRL.2.2]; exact hIM.2.2.2.2.2.2.1
  have hpc : 0 ≤ (σ 0 11).toInt ∧ (σ 0 11).toInt ≤ 3599 := by rw [hRL.2.1]; exact hIM.2.2.2.2.2.2.2
  have hin1 : vp_in (nI i + (1 : Int32)) L := vin (t := (i : Int) + 1) (addI hnI (by decide) (by omega) (by omega)) (by omega) (by omega)
  have hin2 : vp_in (nI i + (2 : Int32)) L := vin (t := (i : Int) + 2) (addI hnI (by decide) (by omega) (by omega)) (by omega) (by omega)
  have hin3 : vp_in (nI i + (3 : Int32)) L := vin (t := (i : Int) + 3) (addI hnI (by decide) (by omega) (by omega)) (by omega) (by omega)
  have hin4 : vp_in (nI i + (4 : Int32)) L := vin (t := (i : Int) + 4) (addI hnI (by decide) (by omega) (by omega)) (by omega) (by omega)
  have hk6 := hk6_of hI
  have hMP := mpre_of hR6
  refine lv_aload_n hx hb dL_law_651 rfl (lv_at hl 2 rfl) ?_
  refine lv_aload_n hx hb dL_law_652 rfl (lv_at hl 1 rfl) ?_
  refine lv_iload_n hx hb dL_law_653 rfl (lv_at hl 0 rfl) ?_
  refine lv_iconst (v := 1) hx hb dL_law_654 (by decide) ?_
  refine lv_iadd hx hb dL_law_655 ?_
  refine va_sld hx hb hX hbl hbA hS hin1 dL_law_656 ?_
  refine lv_topi (fun a_178 e_a_178 => ?_)
  refine lv_aload_n hx hb dL_law_657 rfl (lv_at hl 1 rfl) ?_
  refine lv_iload_n hx hb dL_law_658 rfl (lv_at hl 0 rfl) ?_
  refine lv_iconst (v := 2) hx hb dL_law_659 (by decide) ?_
  refine lv_iadd hx hb dL_law_660 ?_
  refine va_sld hx hb hX hbl hbA hS hin2 dL_law_661 ?_
  refine lv_topi (fun a_179 e_a_179 => ?_)
  refine goi (runV (As := [.int a_178, .int a_179]) (rest := []) hC hK hR hl.1 (c_X9_set l hG σ τ a_178 a_179 ) (call_b hC.ts TC_X9_set TN_X9 TM_L_78 hd_X9_set ⟨Nat.le_of_ble_eq_true rfl, Nat.le_of_ble_eq_true rfl⟩) TI_X9_set TS_X9_set (ct_bench G _ _) rfl rfl rfl (Nat.le_of_ble_eq_true rfl) dL_law_662 ⟨Nat.le_of_ble_eq_true rfl, Nat.le_of_ble_eq_true rfl⟩) hS (fun v_180 s_182 t_183 H locs w_181 hR hS => ?_)
  refine lv_pop hx hb dL_law_665 rfl ?_
  refine lv_aload_n hx hb dL_law_666 rfl (lv_at hl 3 rfl) ?_
  refine lv_aload_n hx hb dL_law_667 rfl (lv_at hl 1 rfl) ?_
  refine lv_iload_n hx hb dL_law_668 rfl (lv_at hl 0 rfl) ?_
  refine lv_iconst (v := 1) hx hb dL_law_669 (by decide) ?_
  refine lv_iadd hx hb dL_law_670 ?_
  refine va_sld hx hb hX hbl hbA hS hin1 dL_law_671 ?_
  rw [← e_a_178]
  refine lv_aload_n hx hb dL_law_672 rfl (lv_at hl 1 rfl) ?_
  refine lv_iload_n hx hb dL_law_673 rfl (lv_at hl 0 rfl) ?_
  refine lv_iconst (v := 2) hx hb dL_law_674 (by decide) ?_
  refine lv_iadd hx hb dL_law_675 ?_
  refine va_sld hx hb hX hbl hbA hS hin2 dL_law_676 ?_
  rw [← e_a_179]
  refine goi (runV (As := [.int a_178, .int a_179]) (rest := []) hC hK hR hl.1 (c_X10_set l hG s_182 t_183 a_178 a_179 ) (call_b hC.ts TC_X10_set TN_X10 TM_L_82 hd_X10_set ⟨Nat.le_of_ble_eq_true rfl, Nat.le_of_ble_eq_true rfl⟩) TI_X10_set TS_X10_set (ct_model G _ _) rfl rfl rfl (Nat.le_of_ble_eq_true rfl) dL_law_677 ⟨Nat.le_of_ble_eq_true rfl, Nat.le_of_ble_eq_true rfl⟩) hS (fun v_186 s_188 t_189 H locs w_187 hR hS => ?_)
  refine lv_pop hx hb dL_law_680 rfl ?_
  refine lv_goto (tgt := 1020) hx hb dL_law_681 (by decide) ?_
  exact Tl _ _ ⟨(inv_set hI1 w_181 w_187).1, rel_set hRe w_181 w_187, ((hEn.ex (k3_xset w_181)).ex (k3_set w_187)), rel6_set hR6 w_181 w_187⟩ _ _ _ hR hS hl
set_option maxHeartbeats 4000000 in
set_option maxRecDepth 100000 in
theorem law_c16 {p : Program} {l : Launch} {e : Env} {s : State} {m : MethodId} {below : List Frame} {meth : Method} {c : Code} {G : Gx} {b L : Nat} {xs : Nat → Int32} (hL : L ≤ 2560) (C0 : lw_At p s m meth c b L xs) (hC : Cx p s m #[Value.ref b] meth c cL_law 4 RL ret) (hK : KU G s) (hG : GOk G (fun q : Nat => s.heap.size ≤ q)) {i : Nat} {σ : SI} {τ : SL} {H : Heap} {locs : List Loc} {ls : Array Slot} (hi5 : i + 5 ≤ L) (hI : Inv6 σ) (hR : RepH G σ τ H) (hS : va_S (fun q : Nat => s.heap.size ≤ q) s.heap H locs) (hl : lv_has ls 4 [(3, .int (nI i)), (0, .ref b), (1, .ref (G.2.1 0)), (2, .ref (G.2.1 35))])
    (Tl : ∀ (σ : SI) (τ : SL), Inv6 σ → ∀ (H : Heap) (locs : List Loc) (ls : Array Slot), RepH G σ τ H → va_S (fun q : Nat => s.heap.size ≤ q) s.heap H locs → lv_has ls 4 [(3, .int (nI i)), (0, .ref b), (1, .ref (G.2.1 0)), (2, .ref (G.2.1 35))] → W p l e room_1 s m #[Value.ref b] below meth c H locs 600000 7302250 (lw_Z below #[Value.ref b] s) (F0 m 1020 ls [])) : W p l e room_1 s m #[Value.ref b] below meth c H locs 600000 7302250 (lw_Z below #[Value.ref b] s) (F0 m 684 ls []) := by
  obtain ⟨hx, hb, hr, hml, hown, hts, hX, hbl, hlocks, hgv⟩ := id C0
  have hbA : ¬ (fun q : Nat => s.heap.size ≤ q) b := Nat.not_le.mpr hbl
  obtain ⟨hI1, hRe, hEn, hR6⟩ := id hI
  obtain ⟨hIM, hIC, hRL⟩ := id hI1
  have hnI := nI_T i (by omega)
  have hnow : 0 ≤ (σ 0 8).toInt ∧ (σ 0 8).toInt ≤ 200 := by rw [hRL.1]; exact hIM.1
  have hoff : -1000000 ≤ (σ 0 12).toInt ∧ (σ 0 12).toInt ≤ 1000000 := by rw [hRL.2.2]; exact hIM.2.2.2.2.2.2.1
  have hpc : 0 ≤ (σ 0 11).toInt ∧ (σ 0 11).toInt ≤ 3599 := by rw [hRL.2.1]; exact hIM.2.2.2.2.2.2.2
  have hin1 : vp_in (nI i + (1 : Int32)) L := vin (t := (i : Int) + 1) (addI hnI (by decide) (by omega) (by omega)) (by omega) (by omega)
  have hin2 : vp_in (nI i + (2 : Int32)) L := vin (t := (i : Int) + 2) (addI hnI (by decide) (by omega) (by omega)) (by omega) (by omega)
  have hin3 : vp_in (nI i + (3 : Int32)) L := vin (t := (i : Int) + 3) (addI hnI (by decide) (by omega) (by omega)) (by omega) (by omega)
  have hin4 : vp_in (nI i + (4 : Int32)) L := vin (t := (i : Int) + 4) (addI hnI (by decide) (by omega) (by omega)) (by omega) (by omega)
  have hk6 := hk6_of hI
  have hMP := mpre_of hR6
  refine lv_aload_n hx hb dL_law_684 rfl (lv_at hl 2 rfl) ?_
  refine goi (runV (As := []) (rest := []) hC hK hR hl.1 (c6_X9_close l hG σ τ  hnow hoff hpc hk6) (call_b hC.ts TC_X9_close TN_X9 TM_L_83 hd_X9_close ⟨Nat.le_of_ble_eq_true rfl, Nat.le_of_ble_eq_true rfl⟩) TI_X9_close TS_X9_close (ct_bench G _ _) rfl rfl rfl (Nat.le_of_ble_eq_true rfl) dL_law_685 ⟨Nat.le_of_ble_eq_true rfl, Nat.le_of_ble_eq_true rfl⟩) hS (fun v_190 s_192 t_193 H locs w_191 hR hS => ?_)
  have hM := im_close hIM (cl9 (c69 w_191))
  have hMP := hMP.fr (cfr_close6 w_191)
  refine lv_pop hx hb dL_law_688 rfl ?_
  refine lv_aload_n hx hb dL_law_689 rfl (lv_at hl 3 rfl) ?_
  refine goi (runV (As := []) (rest := []) hC hK hR hl.1 (c7_X10_close l hG s_192 t_193  (hM.1) (hM.2.2.2.2.2.2.1) (hM.2.2.2.2.2.2.2) (hM.2.1) (hM.2.2.1) (hM.2.2.2.2.1) hMP.1 hMP.2.1 hMP.2.2) (call_b hC.ts TC_X10_close TN_X10 TM_L_87 hd_X10_close ⟨Nat.le_of_ble_eq_true rfl, Nat.le_of_ble_eq_true rfl⟩) TI_X10_close TS_X10_close (ct_model G _ _) rfl rfl rfl (Nat.le_of_ble_eq_true rfl) dL_law_690 ⟨Nat.le_of_ble_eq_true rfl, Nat.le_of_ble_eq_true rfl⟩) hS (fun v_194 s_196 t_197 H locs w_195 hR hS => ?_)
  refine lv_pop hx hb dL_law_693 rfl ?_
  refine lv_goto (tgt := 1020) hx hb dL_law_694 (by decide) ?_
  exact Tl _ _ ⟨(inv_close hI1 (cl9 (c69 w_191)) (cl10 (c710 w_195))), rel_close hRe (cl9 (c69 w_191)) (cl10 (c710 w_195)), ((hEn.ex (k3_xclose (cl9 (c69 w_191)))).ex (k3_close (cl10 (c710 w_195)))), rel6_close hI (inv_close hI1 (cl9 (c69 w_191)) (cl10 (c710 w_195))) w_191 w_195⟩ _ _ _ hR hS hl
set_option maxHeartbeats 4000000 in
set_option maxRecDepth 100000 in
theorem law_c17 {p : Program} {l : Launch} {e : Env} {s : State} {m : MethodId} {below : List Frame} {meth : Method} {c : Code} {G : Gx} {b L : Nat} {xs : Nat → Int32} (hL : L ≤ 2560) (C0 : lw_At p s m meth c b L xs) (hC : Cx p s m #[Value.ref b] meth c cL_law 4 RL ret) (hK : KU G s) (hG : GOk G (fun q : Nat => s.heap.size ≤ q)) {i : Nat} {σ : SI} {τ : SL} {H : Heap} {locs : List Loc} {ls : Array Slot} (hi5 : i + 5 ≤ L) (hI : Inv6 σ) (hR : RepH G σ τ H) (hS : va_S (fun q : Nat => s.heap.size ≤ q) s.heap H locs) (hl : lv_has ls 4 [(3, .int (nI i)), (0, .ref b), (1, .ref (G.2.1 0)), (2, .ref (G.2.1 35))])
    (Tl : ∀ (σ : SI) (τ : SL), Inv6 σ → ∀ (H : Heap) (locs : List Loc) (ls : Array Slot), RepH G σ τ H → va_S (fun q : Nat => s.heap.size ≤ q) s.heap H locs → lv_has ls 4 [(3, .int (nI i)), (0, .ref b), (1, .ref (G.2.1 0)), (2, .ref (G.2.1 35))] → W p l e room_1 s m #[Value.ref b] below meth c H locs 600000 7302250 (lw_Z below #[Value.ref b] s) (F0 m 1020 ls [])) : W p l e room_1 s m #[Value.ref b] below meth c H locs 600000 7302250 (lw_Z below #[Value.ref b] s) (F0 m 697 ls []) := by
  obtain ⟨hx, hb, hr, hml, hown, hts, hX, hbl, hlocks, hgv⟩ := id C0
  have hbA : ¬ (fun q : Nat => s.heap.size ≤ q) b := Nat.not_le.mpr hbl
  obtain ⟨hI1, hRe, hEn, hR6⟩ := id hI
  obtain ⟨hIM, hIC, hRL⟩ := id hI1
  have hnI := nI_T i (by omega)
  have hnow : 0 ≤ (σ 0 8).toInt ∧ (σ 0 8).toInt ≤ 200 := by rw [hRL.1]; exact hIM.1
  have hoff : -1000000 ≤ (σ 0 12).toInt ∧ (σ 0 12).toInt ≤ 1000000 := by rw [hRL.2.2]; exact hIM.2.2.2.2.2.2.1
  have hpc : 0 ≤ (σ 0 11).toInt ∧ (σ 0 11).toInt ≤ 3599 := by rw [hRL.2.1]; exact hIM.2.2.2.2.2.2.2
  have hin1 : vp_in (nI i + (1 : Int32)) L := vin (t := (i : Int) + 1) (addI hnI (by decide) (by omega) (by omega)) (by omega) (by omega)
  have hin2 : vp_in (nI i + (2 : Int32)) L := vin (t := (i : Int) + 2) (addI hnI (by decide) (by omega) (by omega)) (by omega) (by omega)
  have hin3 : vp_in (nI i + (3 : Int32)) L := vin (t := (i : Int) + 3) (addI hnI (by decide) (by omega) (by omega)) (by omega) (by omega)
  have hin4 : vp_in (nI i + (4 : Int32)) L := vin (t := (i : Int) + 4) (addI hnI (by decide) (by omega) (by omega)) (by omega) (by omega)
  have hk6 := hk6_of hI
  have hMP := mpre_of hR6
  refine lv_aload_n hx hb dL_law_697 rfl (lv_at hl 2 rfl) ?_
  refine goip (runV (As := []) (rest := []) hC hK hR hl.1 (c_X9_hour l hG σ τ  ) (call_b hC.ts TC_X9_hour TN_X9 TM_L_88 hd_X9_hour ⟨Nat.le_of_ble_eq_true rfl, Nat.le_of_ble_eq_true rfl⟩) TI_X9_hour TS_X9_hour (ct_bench G _ _) rfl rfl rfl (Nat.le_of_ble_eq_true rfl) dL_law_698 ⟨Nat.le_of_ble_eq_true rfl, Nat.le_of_ble_eq_true rfl⟩) hS (fun v_198 H locs w_199 hR hS => ?_)
  refine lv_pop hx hb dL_law_701 rfl ?_
  refine lv_aload_n hx hb dL_law_702 rfl (lv_at hl 3 rfl) ?_
  refine goip (runV (As := []) (rest := []) hC hK hR hl.1 (c_X10_hour l hG σ τ  ) (call_b hC.ts TC_X10_hour TN_X10 TM_L_91 hd_X10_hour ⟨Nat.le_of_ble_eq_true rfl, Nat.le_of_ble_eq_true rfl⟩) TI_X10_hour TS_X10_hour (ct_model G _ _) rfl rfl rfl (Nat.le_of_ble_eq_true rfl) dL_law_703 ⟨Nat.le_of_ble_eq_true rfl, Nat.le_of_ble_eq_true rfl⟩) hS (fun v_200 H locs w_201 hR hS => ?_)
  refine lv_pop hx hb dL_law_706 rfl ?_
  refine lv_goto (tgt := 1020) hx hb dL_law_707 (by decide) ?_
  exact Tl _ _ hI _ _ _ hR hS hl
set_option maxHeartbeats 4000000 in
set_option maxRecDepth 100000 in
theorem law_c18 {p : Program} {l : Launch} {e : Env} {s : State} {m : MethodId} {below : List Frame} {meth : Method} {c : Code} {G : Gx} {b L : Nat} {xs : Nat → Int32} (hL : L ≤ 2560) (C0 : lw_At p s m meth c b L xs) (hC : Cx p s m #[Value.ref b] meth c cL_law 4 RL ret) (hK : KU G s) (hG : GOk G (fun q : Nat => s.heap.size ≤ q)) {i : Nat} {σ : SI} {τ : SL} {H : Heap} {locs : List Loc} {ls : Array Slot} (hi5 : i + 5 ≤ L) (hI : Inv6 σ) (hR : RepH G σ τ H) (hS : va_S (fun q : Nat => s.heap.size ≤ q) s.heap H locs) (hl : lv_has ls 4 [(3, .int (nI i)), (0, .ref b), (1, .ref (G.2.1 0)), (2, .ref (G.2.1 35))])
    (Tl : ∀ (σ : SI) (τ : SL), Inv6 σ → ∀ (H : Heap) (locs : List Loc) (ls : Array Slot), RepH G σ τ H → va_S (fun q : Nat => s.heap.size ≤ q) s.heap H locs → lv_has ls 4 [(3, .int (nI i)), (0, .ref b), (1, .ref (G.2.1 0)), (2, .ref (G.2.1 35))] → W p l e room_1 s m #[Value.ref b] below meth c H locs 600000 7302250 (lw_Z below #[Value.ref b] s) (F0 m 1020 ls [])) : W p l e room_1 s m #[Value.ref b] below meth c H locs 600000 7302250 (lw_Z below #[Value.ref b] s) (F0 m 710 ls []) := by
  obtain ⟨hx, hb, hr, hml, hown, hts, hX, hbl, hlocks, hgv⟩ := id C0
  have hbA : ¬ (fun q : Nat => s.heap.size ≤ q) b := Nat.not_le.mpr hbl
  obtain ⟨hI1, hRe, hEn, hR6⟩ := id hI
  obtain ⟨hIM, hIC, hRL⟩ := id hI1
  have hnI := nI_T i (by omega)
  have hnow : 0 ≤ (σ 0 8).toInt ∧ (σ 0 8).toInt ≤ 200 := by rw [hRL.1]; exact hIM.1
  have hoff : -1000000 ≤ (σ 0 12).toInt ∧ (σ 0 12).toInt ≤ 1000000 := by rw [hRL.2.2]; exact hIM.2.2.2.2.2.2.1
  have hpc : 0 ≤ (σ 0 11).toInt ∧ (σ 0 11).toInt ≤ 3599 := by rw [hRL.2.1]; exact hIM.2.2.2.2.2.2.2
  have hin1 : vp_in (nI i + (1 : Int32)) L := vin (t := (i : Int) + 1) (addI hnI (by decide) (by omega) (by omega)) (by omega) (by omega)
  have hin2 : vp_in (nI i + (2 : Int32)) L := vin (t := (i : Int) + 2) (addI hnI (by decide) (by omega) (by omega)) (by omega) (by omega)
  have hin3 : vp_in (nI i + (3 : Int32)) L := vin (t := (i : Int) + 3) (addI hnI (by decide) (by omega) (by omega)) (by omega) (by omega)
  have hin4 : vp_in (nI i + (4 : Int32)) L := vin (t := (i : Int) + 4) (addI hnI (by decide) (by omega) (by omega)) (by omega) (by omega)
  have hk6 := hk6_of hI
  have hMP := mpre_of hR6
  refine lv_aload_n hx hb dL_law_710 rfl (lv_at hl 2 rfl) ?_
  refine lv_aload_n hx hb dL_law_711 rfl (lv_at hl 1 rfl) ?_
  refine lv_iload_n hx hb dL_law_712 rfl (lv_at hl 0 rfl) ?_
  refine lv_iconst (v := 1) hx hb dL_law_713 (by decide) ?_
  refine lv_iadd hx hb dL_law_714 ?_
  refine va_sld hx hb hX hbl hbA hS hin1 dL_law_715 ?_
  refine lv_topi (fun a_202 e_a_202 => ?_)
  refine lv_aload_n hx hb dL_law_716 rfl (lv_at hl 1 rfl) ?_
  refine lv_iload_n hx hb dL_law_717 rfl (lv_at hl 0 rfl) ?_
  refine lv_iconst (v := 2) hx hb dL_law_718 (by decide) ?_
  refine lv_iadd hx hb dL_law_719 ?_
  refine va_sld hx hb hX hbl hbA hS hin2 dL_law_720 ?_
  refine lv_topi (fun a_203 e_a_203 => ?_)
  refine goip (runV (As := [.int a_202, .int a_203]) (rest := []) hC hK hR hl.1 (c_X9_clock l hG σ τ a_202 a_202.toInt.toNat rfl a_203 ) (call_b hC.ts TC_X9_clock TN_X9 TM_L_92 hd_X9_clock ⟨Nat.le_of_ble_eq_true rfl, Nat.le_of_ble_eq_true rfl⟩) TI_X9_clock TS_X9_clock (ct_bench G _ _) rfl rfl rfl (Nat.le_of_ble_eq_true rfl) dL_law_721 ⟨Nat.le_of_ble_eq_true rfl, Nat.le_of_ble_eq_true rfl⟩) hS (fun v_204 H locs w_205 hR hS => ?_)
  refine lv_pop hx hb dL_law_724 rfl ?_
  refine lv_aload_n hx hb dL_law_725 rfl (lv_at hl 3 rfl) ?_
  refine lv_aload_n hx hb dL_law_726 rfl (lv_at hl 1 rfl) ?_
  refine lv_iload_n hx hb dL_law_727 rfl (lv_at hl 0 rfl) ?_
  refine lv_iconst (v := 1) hx hb dL_law_728 (by decide) ?_
  refine lv_iadd hx hb dL_law_729 ?_
  refine va_sld hx hb hX hbl hbA hS hin1 dL_law_730 ?_
  rw [← e_a_202]
  refine lv_aload_n hx hb dL_law_731 rfl (lv_at hl 1 rfl) ?_
  refine lv_iload_n hx hb dL_law_732 rfl (lv_at hl 0 rfl) ?_
  refine lv_iconst (v := 2) hx hb dL_law_733 (by decide) ?_
  refine lv_iadd hx hb dL_law_734 ?_
  refine va_sld hx hb hX hbl hbA hS hin2 dL_law_735 ?_
  rw [← e_a_203]
  refine goip (runV (As := [.int a_202, .int a_203]) (rest := []) hC hK hR hl.1 (c_X10_clock l hG σ τ a_202 a_202.toInt.toNat rfl a_203 (hIM.1)) (call_b hC.ts TC_X10_clock TN_X10 TM_L_95 hd_X10_clock ⟨Nat.le_of_ble_eq_true rfl, Nat.le_of_ble_eq_true rfl⟩) TI_X10_clock TS_X10_clock (ct_model G _ _) rfl rfl rfl (Nat.le_of_ble_eq_true rfl) dL_law_736 ⟨Nat.le_of_ble_eq_true rfl, Nat.le_of_ble_eq_true rfl⟩) hS (fun v_208 H locs w_209 hR hS => ?_)
  refine lv_pop hx hb dL_law_739 rfl ?_
  refine lv_goto (tgt := 1020) hx hb dL_law_740 (by decide) ?_
  exact Tl _ _ hI _ _ _ hR hS hl
set_option maxHeartbeats 4000000 in
set_option maxRecDepth 100000 in
theorem law_c19 {p : Program} {l : Launch} {e : Env} {s : State} {m : MethodId} {below : List Frame} {meth : Method} {c : Code} {G : Gx} {b L : Nat} {xs : Nat → Int32} (hL : L ≤ 2560) (C0 : lw_At p s m meth c b L xs) (hC : Cx p s m #[Value.ref b] meth c cL_law 4 RL ret) (hK : KU G s) (hG : GOk G (fun q : Nat => s.heap.size ≤ q)) {i : Nat} {σ : SI} {τ : SL} {H : Heap} {locs : List Loc} {ls : Array Slot} (hi5 : i + 5 ≤ L) (hI : Inv6 σ) (hR : RepH G σ τ H) (hS : va_S (fun q : Nat => s.heap.size ≤ q) s.heap H locs) (hl : lv_has ls 4 [(3, .int (nI i)), (0, .ref b), (1, .ref (G.2.1 0)), (2, .ref (G.2.1 35))])
    (Tl : ∀ (σ : SI) (τ : SL), Inv6 σ → ∀ (H : Heap) (locs : List Loc) (ls : Array Slot), RepH G σ τ H → va_S (fun q : Nat => s.heap.size ≤ q) s.heap H locs → lv_has ls 4 [(3, .int (nI i)), (0, .ref b), (1, .ref (G.2.1 0)), (2, .ref (G.2.1 35))] → W p l e room_1 s m #[Value.ref b] below meth c H locs 600000 7302250 (lw_Z below #[Value.ref b] s) (F0 m 1020 ls [])) : W p l e room_1 s m #[Value.ref b] below meth c H locs 600000 7302250 (lw_Z below #[Value.ref b] s) (F0 m 743 ls []) := by
  obtain ⟨hx, hb, hr, hml, hown, hts, hX, hbl, hlocks, hgv⟩ := id C0
  have hbA : ¬ (fun q : Nat => s.heap.size ≤ q) b := Nat.not_le.mpr hbl
  obtain ⟨hI1, hRe, hEn, hR6⟩ := id hI
  obtain ⟨hIM, hIC, hRL⟩ := id hI1
  have hnI := nI_T i (by omega)
  have hnow : 0 ≤ (σ 0 8).toInt ∧ (σ 0 8).toInt ≤ 200 := by rw [hRL.1]; exact hIM.1
  have hoff : -1000000 ≤ (σ 0 12).toInt ∧ (σ 0 12).toInt ≤ 1000000 := by rw [hRL.2.2]; exact hIM.2.2.2.2.2.2.1
  have hpc : 0 ≤ (σ 0 11).toInt ∧ (σ 0 11).toInt ≤ 3599 := by rw [hRL.2.1]; exact hIM.2.2.2.2.2.2.2
  have hin1 : vp_in (nI i + (1 : Int32)) L := vin (t := (i : Int) + 1) (addI hnI (by decide) (by omega) (by omega)) (by omega) (by omega)
  have hin2 : vp_in (nI i + (2 : Int32)) L := vin (t := (i : Int) + 2) (addI hnI (by decide) (by omega) (by omega)) (by omega) (by omega)
  have hin3 : vp_in (nI i + (3 : Int32)) L := vin (t := (i : Int) + 3) (addI hnI (by decide) (by omega) (by omega)) (by omega) (by omega)
  have hin4 : vp_in (nI i + (4 : Int32)) L := vin (t := (i : Int) + 4) (addI hnI (by decide) (by omega) (by omega)) (by omega) (by omega)
  have hk6 := hk6_of hI
  have hMP := mpre_of hR6
  refine lv_aload_n hx hb dL_law_743 rfl (lv_at hl 2 rfl) ?_
  refine lv_aload_n hx hb dL_law_744 rfl (lv_at hl 1 rfl) ?_
  refine lv_iload_n hx hb dL_law_745 rfl (lv_at hl 0 rfl) ?_
  refine lv_iconst (v := 1) hx hb dL_law_746 (by decide) ?_
  refine lv_iadd hx hb dL_law_747 ?_
  refine va_sld hx hb hX hbl hbA hS hin1 dL_law_748 ?_
  refine lv_topi (fun a_210 e_a_210 => ?_)
  refine goi (runV (As := [.int a_210]) (rest := []) hC hK hR hl.1 (c_X9_foretell l hG σ τ a_210 a_210.toInt.toNat rfl ) (call_b hC.ts TC_X9_foretell TN_X9 TM_L_96 hd_X9_foretell ⟨Nat.le_of_ble_eq_true rfl, Nat.le_of_ble_eq_true rfl⟩) TI_X9_foretell TS_X9_foretell (ct_bench G _ _) rfl rfl rfl (Nat.le_of_ble_eq_true rfl) dL_law_749 ⟨Nat.le_of_ble_eq_true rfl, Nat.le_of_ble_eq_true rfl⟩) hS (fun v_211 s_213 t_214 H locs w_212 hR hS => ?_)
  have hcn := cn_F hIC w_212
  have hM := hIM.fr hcn.1
  refine lv_pop hx hb dL_law_752 rfl ?_
  refine lv_aload_n hx hb dL_law_753 rfl (lv_at hl 3 rfl) ?_
  refine lv_aload_n hx hb dL_law_754 rfl (lv_at hl 1 rfl) ?_
  refine lv_iload_n hx hb dL_law_755 rfl (lv_at hl 0 rfl) ?_
  refine lv_iconst (v := 1) hx hb dL_law_756 (by decide) ?_
  refine lv_iadd hx hb dL_law_757 ?_
  refine va_sld hx hb hX hbl hbA hS hin1 dL_law_758 ?_
  rw [← e_a_210]
  refine goi (runV (As := [.int a_210]) (rest := []) hC hK hR hl.1 (c_X10_foretell l hG s_213 t_214 a_210 a_210.toInt.toNat rfl (hM.1) (hM.2.2.1)) (call_b hC.ts TC_X10_foretell TN_X10 TM_L_99 hd_X10_foretell ⟨Nat.le_of_ble_eq_true rfl, Nat.le_of_ble_eq_true rfl⟩) TI_X10_foretell TS_X10_foretell (ct_model G _ _) rfl rfl rfl (Nat.le_of_ble_eq_true rfl) dL_law_759 ⟨Nat.le_of_ble_eq_true rfl, Nat.le_of_ble_eq_true rfl⟩) hS (fun v_216 s_218 t_219 H locs w_217 hR hS => ?_)
  refine lv_pop hx hb dL_law_762 rfl ?_
  refine lv_goto (tgt := 1020) hx hb dL_law_763 (by decide) ?_
  exact Tl _ _ ⟨(Inv.go hI1 hcn (mn_F hM w_217)), rel_F hRe w_212 w_217, (EN.ex (hEn.ex (K3.cf hcn.1)) (K3.mr w_217 id id id)), Rel6.go hR6 hcn (mn_F hM w_217) (w6_F w_212) (v6_F w_217) p0_k⟩ _ _ _ hR hS hl
set_option maxHeartbeats 4000000 in
set_option maxRecDepth 100000 in
theorem law_c20 {p : Program} {l : Launch} {e : Env} {s : State} {m : MethodId} {below : List Frame} {meth : Method} {c : Code} {G : Gx} {b L : Nat} {xs : Nat → Int32} (hL : L ≤ 2560) (C0 : lw_At p s m meth c b L xs) (hC : Cx p s m #[Value.ref b] meth c cL_law 4 RL ret) (hK : KU G s) (hG : GOk G (fun q : Nat => s.heap.size ≤ q)) {i : Nat} {σ : SI} {τ : SL} {H : Heap} {locs : List Loc} {ls : Array Slot} (hi5 : i + 5 ≤ L) (hI : Inv6 σ) (hR : RepH G σ τ H) (hS : va_S (fun q : Nat => s.heap.size ≤ q) s.heap H locs) (hl : lv_has ls 4 [(3, .int (nI i)), (0, .ref b), (1, .ref (G.2.1 0)), (2, .ref (G.2.1 35))])
    (Tl : ∀ (σ : SI) (τ : SL), Inv6 σ → ∀ (H : Heap) (locs : List Loc) (ls : Array Slot), RepH G σ τ H → va_S (fun q : Nat => s.heap.size ≤ q) s.heap H locs → lv_has ls 4 [(3, .int (nI i)), (0, .ref b), (1, .ref (G.2.1 0)), (2, .ref (G.2.1 35))] → W p l e room_1 s m #[Value.ref b] below meth c H locs 600000 7302250 (lw_Z below #[Value.ref b] s) (F0 m 1020 ls [])) : W p l e room_1 s m #[Value.ref b] below meth c H locs 600000 7302250 (lw_Z below #[Value.ref b] s) (F0 m 766 ls []) := by
  obtain ⟨hx, hb, hr, hml, hown, hts, hX, hbl, hlocks, hgv⟩ := id C0
  have hbA : ¬ (fun q : Nat => s.heap.size ≤ q) b := Nat.not_le.mpr hbl
  obtain ⟨hI1, hRe, hEn, hR6⟩ := id hI
  obtain ⟨hIM, hIC, hRL⟩ := id hI1
  have hnI := nI_T i (by omega)
  have hnow : 0 ≤ (σ 0 8).toInt ∧ (σ 0 8).toInt ≤ 200 := by rw [hRL.1]; exact hIM.1
  have hoff : -1000000 ≤ (σ 0 12).toInt ∧ (σ 0 12).toInt ≤ 1000000 := by rw [hRL.2.2]; exact hIM.2.2.2.2.2.2.1
  have hpc : 0 ≤ (σ 0 11).toInt ∧ (σ 0 11).toInt ≤ 3599 := by rw [hRL.2.1]; exact hIM.2.2.2.2.2.2.2
  have hin1 : vp_in (nI i + (1 : Int32)) L := vin (t := (i : Int) + 1) (addI hnI (by decide) (by omega) (by omega)) (by omega) (by omega)
  have hin2 : vp_in (nI i + (2 : Int32)) L := vin (t := (i : Int) + 2) (addI hnI (by decide) (by omega) (by omega)) (by omega) (by omega)
  have hin3 : vp_in (nI i + (3 : Int32)) L := vin (t := (i : Int) + 3) (addI hnI (by decide) (by omega) (by omega)) (by omega) (by omega)
  have hin4 : vp_in (nI i + (4 : Int32)) L := vin (t := (i : Int) + 4) (addI hnI (by decide) (by omega) (by omega)) (by omega) (by omega)
  have hk6 := hk6_of hI
  have hMP := mpre_of hR6
  refine lv_aload_n hx hb dL_law_766 rfl (lv_at hl 2 rfl) ?_
  refine lv_aload_n hx hb dL_law_767 rfl (lv_at hl 1 rfl) ?_
  refine lv_iload_n hx hb dL_law_768 rfl (lv_at hl 0 rfl) ?_
  refine lv_iconst (v := 1) hx hb dL_law_769 (by decide) ?_
  refine lv_iadd hx hb dL_law_770 ?_
  refine va_sld hx hb hX hbl hbA hS hin1 dL_law_771 ?_
  refine lv_topi (fun a_220 e_a_220 => ?_)
  refine lv_aload_n hx hb dL_law_772 rfl (lv_at hl 1 rfl) ?_
  refine lv_iload_n hx hb dL_law_773 rfl (lv_at hl 0 rfl) ?_
  refine lv_iconst (v := 2) hx hb dL_law_774 (by decide) ?_
  refine lv_iadd hx hb dL_law_775 ?_
  refine va_sld hx hb hX hbl hbA hS hin2 dL_law_776 ?_
  refine lv_topi (fun a_221 e_a_221 => ?_)
  refine goi (runV (As := [.int a_220, .int a_221]) (rest := []) hC hK hR hl.1 (c_X9_slope l hG σ τ a_220 a_220.toInt.toNat rfl a_221 ) (call_b hC.ts TC_X9_slope TN_X9 TM_L_100 hd_X9_slope ⟨Nat.le_of_ble_eq_true rfl, Nat.le_of_ble_eq_true rfl⟩) TI_X9_slope TS_X9_slope (ct_bench G _ _) rfl rfl rfl (Nat.le_of_ble_eq_true rfl) dL_law_777 ⟨Nat.le_of_ble_eq_true rfl, Nat.le_of_ble_eq_true rfl⟩) hS (fun v_222 s_224 t_225 H locs w_223 hR hS => ?_)
  have hcn := cn_F hIC w_223
  have hM := hIM.fr hcn.1
  refine lv_pop hx hb dL_law_780 rfl ?_
  refine lv_aload_n hx hb dL_law_781 rfl (lv_at hl 3 rfl) ?_
  refine lv_aload_n hx hb dL_law_782 rfl (lv_at hl 1 rfl) ?_
  refine lv_iload_n hx hb dL_law_783 rfl (lv_at hl 0 rfl) ?_
  refine lv_iconst (v := 1) hx hb dL_law_784 (by decide) ?_
  refine lv_iadd hx hb dL_law_785 ?_
  refine va_sld hx hb hX hbl hbA hS hin1 dL_law_786 ?_
  rw [← e_a_220]
  refine lv_aload_n hx hb dL_law_787 rfl (lv_at hl 1 rfl) ?_
  refine lv_iload_n hx hb dL_law_788 rfl (lv_at hl 0 rfl) ?_
  refine lv_iconst (v := 2) hx hb dL_law_789 (by decide) ?_
  refine lv_iadd hx hb dL_law_790 ?_
  refine va_sld hx hb hX hbl hbA hS hin2 dL_law_791 ?_
  rw [← e_a_221]
  refine goi (runV (As := [.int a_220, .int a_221]) (rest := []) hC hK hR hl.1 (c_X10_slope l hG s_224 t_225 a_220 a_220.toInt.toNat rfl a_221 (hM.1) (hM.2.2.1)) (call_b hC.ts TC_X10_slope TN_X10 TM_L_103 hd_X10_slope ⟨Nat.le_of_ble_eq_true rfl, Nat.le_of_ble_eq_true rfl⟩) TI_X10_slope TS_X10_slope (ct_model G _ _) rfl rfl rfl (Nat.le_of_ble_eq_true rfl) dL_law_792 ⟨Nat.le_of_ble_eq_true rfl, Nat.le_of_ble_eq_true rfl⟩) hS (fun v_228 s_230 t_231 H locs w_229 hR hS => ?_)
  refine lv_pop hx hb dL_law_795 rfl ?_
  refine lv_goto (tgt := 1020) hx hb dL_law_796 (by decide) ?_
  exact Tl _ _ ⟨(Inv.go hI1 hcn (mn_F hM w_229)), rel_F hRe w_223 w_229, (EN.ex (hEn.ex (K3.cf hcn.1)) (K3.mr w_229 id id id)), Rel6.go hR6 hcn (mn_F hM w_229) (w6_F w_223) (v6_F w_229) p0_k⟩ _ _ _ hR hS hl
set_option maxHeartbeats 4000000 in
set_option maxRecDepth 100000 in
theorem law_c21 {p : Program} {l : Launch} {e : Env} {s : State} {m : MethodId} {below : List Frame} {meth : Method} {c : Code} {G : Gx} {b L : Nat} {xs : Nat → Int32} (hL : L ≤ 2560) (C0 : lw_At p s m meth c b L xs) (hC : Cx p s m #[Value.ref b] meth c cL_law 4 RL ret) (hK : KU G s) (hG : GOk G (fun q : Nat => s.heap.size ≤ q)) {i : Nat} {σ : SI} {τ : SL} {H : Heap} {locs : List Loc} {ls : Array Slot} (hi5 : i + 5 ≤ L) (hI : Inv6 σ) (hR : RepH G σ τ H) (hS : va_S (fun q : Nat => s.heap.size ≤ q) s.heap H locs) (hl : lv_has ls 4 [(3, .int (nI i)), (0, .ref b), (1, .ref (G.2.1 0)), (2, .ref (G.2.1 35))])
    (Tl : ∀ (σ : SI) (τ : SL), Inv6 σ → ∀ (H : Heap) (locs : List Loc) (ls : Array Slot), RepH G σ τ H → va_S (fun q : Nat => s.heap.size ≤ q) s.heap H locs → lv_has ls 4 [(3, .int (nI i)), (0, .ref b), (1, .ref (G.2.1 0)), (2, .ref (G.2.1 35))] → W p l e room_1 s m #[Value.ref b] below meth c H locs 600000 7302250 (lw_Z below #[Value.ref b] s) (F0 m 1020 ls [])) : W p l e room_1 s m #[Value.ref b] below meth c H locs 600000 7302250 (lw_Z below #[Value.ref b] s) (F0 m 799 ls []) := by
  obtain ⟨hx, hb, hr, hml, hown, hts, hX, hbl, hlocks, hgv⟩ := id C0
  have hbA : ¬ (fun q : Nat => s.heap.size ≤ q) b := Nat.not_le.mpr hbl
  obtain ⟨hI1, hRe, hEn, hR6⟩ := id hI
  obtain ⟨hIM, hIC, hRL⟩ := id hI1
  have hnI := nI_T i (by omega)
  have hnow : 0 ≤ (σ 0 8).toInt ∧ (σ 0 8).toInt ≤ 200 := by rw [hRL.1]; exact hIM.1
  have hoff : -1000000 ≤ (σ 0 12).toInt ∧ (σ 0 12).toInt ≤ 1000000 := by rw [hRL.2.2]; exact hIM.2.2.2.2.2.2.1
  have hpc : 0 ≤ (σ 0 11).toInt ∧ (σ 0 11).toInt ≤ 3599 := by rw [hRL.2.1]; exact hIM.2.2.2.2.2.2.2
  have hin1 : vp_in (nI i + (1 : Int32)) L := vin (t := (i : Int) + 1) (addI hnI (by decide) (by omega) (by omega)) (by omega) (by omega)
  have hin2 : vp_in (nI i + (2 : Int32)) L := vin (t := (i : Int) + 2) (addI hnI (by decide) (by omega) (by omega)) (by omega) (by omega)
  have hin3 : vp_in (nI i + (3 : Int32)) L := vin (t := (i : Int) + 3) (addI hnI (by decide) (by omega) (by omega)) (by omega) (by omega)
  have hin4 : vp_in (nI i + (4 : Int32)) L := vin (t := (i : Int) + 4) (addI hnI (by decide) (by omega) (by omega)) (by omega) (by omega)
  have hk6 := hk6_of hI
  have hMP := mpre_of hR6
  refine lv_aload_n hx hb dL_law_799 rfl (lv_at hl 2 rfl) ?_
  refine lv_aload_n hx hb dL_law_800 rfl (lv_at hl 1 rfl) ?_
  refine lv_iload_n hx hb dL_law_801 rfl (lv_at hl 0 rfl) ?_
  refine lv_iconst (v := 1) hx hb dL_law_802 (by decide) ?_
  refine lv_iadd hx hb dL_law_803 ?_
  refine va_sld hx hb hX hbl hbA hS hin1 dL_law_804 ?_
  refine lv_topi (fun a_232 e_a_232 => ?_)
  refine goi (runV (As := [.int a_232]) (rest := []) hC hK hR hl.1 (c_X9_weight l hG σ τ a_232 a_232.toInt.toNat rfl ) (call_b hC.ts TC_X9_weight TN_X9 TM_L_104 hd_X9_weight ⟨Nat.le_of_ble_eq_true rfl, Nat.le_of_ble_eq_true rfl⟩) TI_X9_weight TS_X9_weight (ct_bench G _ _) rfl rfl rfl (Nat.le_of_ble_eq_true rfl) dL_law_805 ⟨Nat.le_of_ble_eq_true rfl, Nat.le_of_ble_eq_true rfl⟩) hS (fun v_233 s_235 t_236 H locs w_234 hR hS => ?_)
  have hcn := cn_F hIC w_234
  have hM := hIM.fr hcn.1
  refine lv_pop hx hb dL_law_808 rfl ?_
  refine lv_aload_n hx hb dL_law_809 rfl (lv_at hl 3 rfl) ?_
  refine lv_aload_n hx hb dL_law_810 rfl (lv_at hl 1 rfl) ?_
  refine lv_iload_n hx hb dL_law_811 rfl (lv_at hl 0 rfl) ?_
  refine lv_iconst (v := 1) hx hb dL_law_812 (by decide) ?_
  refine lv_iadd hx hb dL_law_813 ?_
  refine va_sld hx hb hX hbl hbA hS hin1 dL_law_814 ?_
  rw [← e_a_232]
  refine goi (runV (As := [.int a_232]) (rest := []) hC hK hR hl.1 (c_X10_weight l hG s_235 t_236 a_232 a_232.toInt.toNat rfl (hM.1) (hM.2.2.1) (hM.2.2.2.2.1)) (call_b hC.ts TC_X10_weight TN_X10 TM_L_107 hd_X10_weight ⟨Nat.le_of_ble_eq_true rfl, Nat.le_of_ble_eq_true rfl⟩) TI_X10_weight TS_X10_weight (ct_model G _ _) rfl rfl rfl (Nat.le_of_ble_eq_true rfl) dL_law_815 ⟨Nat.le_of_ble_eq_true rfl, Nat.le_of_ble_eq_true rfl⟩) hS (fun v_238 s_240 t_241 H locs w_239 hR hS => ?_)
  refine lv_pop hx hb dL_law_818 rfl ?_
  refine lv_goto (tgt := 1020) hx hb dL_law_819 (by decide) ?_
  exact Tl _ _ ⟨(Inv.go hI1 hcn (mn_F hM w_239)), rel_F hRe w_234 w_239, (EN.ex (hEn.ex (K3.cf hcn.1)) (K3.mr w_239 id id id)), Rel6.go hR6 hcn (mn_F hM w_239) (w6_F w_234) (v6_F w_239) p0_k⟩ _ _ _ hR hS hl
set_option maxHeartbeats 4000000 in
set_option maxRecDepth 100000 in
theorem law_c22 {p : Program} {l : Launch} {e : Env} {s : State} {m : MethodId} {below : List Frame} {meth : Method} {c : Code} {G : Gx} {b L : Nat} {xs : Nat → Int32} (hL : L ≤ 2560) (C0 : lw_At p s m meth c b L xs) (hC : Cx p s m #[Value.ref b] meth c cL_law 4 RL ret) (hK : KU G s) (hG : GOk G (fun q : Nat => s.heap.size ≤ q)) {i : Nat} {σ : SI} {τ : SL} {H : Heap} {locs : List Loc} {ls : Array Slot} (hi5 : i + 5 ≤ L) (hI : Inv6 σ) (hR : RepH G σ τ H) (hS : va_S (fun q : Nat => s.heap.size ≤ q) s.heap H locs) (hl : lv_has ls 4 [(3, .int (nI i)), (0, .ref b), (1, .ref (G.2.1 0)), (2, .ref (G.2.1 35))])
    (Tl : ∀ (σ : SI) (τ : SL), Inv6 σ → ∀ (H : Heap) (locs : List Loc) (ls : Array Slot), RepH G σ τ H → va_S (fun q : Nat => s.heap.size ≤ q) s.heap H locs → lv_has ls 4 [(3, .int (nI i)), (0, .ref b), (1, .ref (G.2.1 0)), (2, .ref (G.2.1 35))] → W p l e room_1 s m #[Value.ref b] below meth c H locs 600000 7302250 (lw_Z below #[Value.ref b] s) (F0 m 1020 ls [])) : W p l e room_1 s m #[Value.ref b] below meth c H locs 600000 7302250 (lw_Z below #[Value.ref b] s) (F0 m 822 ls []) := by
  obtain ⟨hx, hb, hr, hml, hown, hts, hX, hbl, hlocks, hgv⟩ := id C0
  have hbA : ¬ (fun q : Nat => s.heap.size ≤ q) b := Nat.not_le.mpr hbl
  obtain ⟨hI1, hRe, hEn, hR6⟩ := id hI
  obtain ⟨hIM, hIC, hRL⟩ := id hI1
  have hnI := nI_T i (by omega)
  have hnow : 0 ≤ (σ 0 8).toInt ∧ (σ 0 8).toInt ≤ 200 := by rw [hRL.1]; exact hIM.1
  have hoff : -1000000 ≤ (σ 0 12).toInt ∧ (σ 0 12).toInt ≤ 1000000 := by rw [hRL.2.2]; exact hIM.2.2.2.2.2.2.1
  have hpc : 0 ≤ (σ 0 11).toInt ∧ (σ 0 11).toInt ≤ 3599 := by rw [hRL.2.1]; exact hIM.2.2.2.2.2.2.2
  have hin1 : vp_in (nI i + (1 : Int32)) L := vin (t := (i : Int) + 1) (addI hnI (by decide) (by omega) (by omega)) (by omega) (by omega)
  have hin2 : vp_in (nI i + (2 : Int32)) L := vin (t := (i : Int) + 2) (addI hnI (by decide) (by omega) (by omega)) (by omega) (by omega)
  have hin3 : vp_in (nI i + (3 : Int32)) L := vin (t := (i : Int) + 3) (addI hnI (by decide) (by omega) (by omega)) (by omega) (by omega)
  have hin4 : vp_in (nI i + (4 : Int32)) L := vin (t := (i : Int) + 4) (addI hnI (by decide) (by omega) (by omega)) (by omega) (by omega)
  have hk6 := hk6_of hI
  have hMP := mpre_of hR6
  refine lv_aload_n hx hb dL_law_822 rfl (lv_at hl 2 rfl) ?_
  refine lv_aload_n hx hb dL_law_823 rfl (lv_at hl 1 rfl) ?_
  refine lv_iload_n hx hb dL_law_824 rfl (lv_at hl 0 rfl) ?_
  refine lv_iconst (v := 1) hx hb dL_law_825 (by decide) ?_
  refine lv_iadd hx hb dL_law_826 ?_
  refine va_sld hx hb hX hbl hbA hS hin1 dL_law_827 ?_
  refine lv_topi (fun a_242 e_a_242 => ?_)
  refine lv_aload_n hx hb dL_law_828 rfl (lv_at hl 1 rfl) ?_
  refine lv_iload_n hx hb dL_law_829 rfl (lv_at hl 0 rfl) ?_
  refine lv_iconst (v := 2) hx hb dL_law_830 (by decide) ?_
  refine lv_iadd hx hb dL_law_831 ?_
  refine va_sld hx hb hX hbl hbA hS hin2 dL_law_832 ?_
  refine lv_topi (fun a_243 e_a_243 => ?_)
  refine lv_aload_n hx hb dL_law_833 rfl (lv_at hl 1 rfl) ?_
  refine lv_iload_n hx hb dL_law_834 rfl (lv_at hl 0 rfl) ?_
  refine lv_iconst (v := 3) hx hb dL_law_835 (by decide) ?_
  refine lv_iadd hx hb dL_law_836 ?_
  refine va_sld hx hb hX hbl hbA hS hin3 dL_law_837 ?_
  refine lv_topi (fun a_244 e_a_244 => ?_)
  refine goip (runV (As := [.int a_242, .int a_243, .int a_244]) (rest := []) hC hK hR hl.1 (c_X9_as l hG σ τ a_242 a_243 a_244 ) (call_b hC.ts TC_X9_as TN_X9 TM_L_108 hd_X9_as ⟨Nat.le_of_ble_eq_true rfl, Nat.le_of_ble_eq_true rfl⟩) TI_X9_as TS_X9_as (ct_bench G _ _) rfl rfl rfl (Nat.le_of_ble_eq_true rfl) dL_law_838 ⟨Nat.le_of_ble_eq_true rfl, Nat.le_of_ble_eq_true rfl⟩) hS (fun v_245 H locs w_246 hR hS => ?_)
  refine lv_pop hx hb dL_law_841 rfl ?_
  refine lv_aload_n hx hb dL_law_842 rfl (lv_at hl 3 rfl) ?_
  refine lv_aload_n hx hb dL_law_843 rfl (lv_at hl 1 rfl) ?_
  refine lv_iload_n hx hb dL_law_844 rfl (lv_at hl 0 rfl) ?_
  refine lv_iconst (v := 1) hx hb dL_law_845 (by decide) ?_
  refine lv_iadd hx hb dL_law_846 ?_
  refine va_sld hx hb hX hbl hbA hS hin1 dL_law_847 ?_
  rw [← e_a_242]
  refine lv_aload_n hx hb dL_law_848 rfl (lv_at hl 1 rfl) ?_
  refine lv_iload_n hx hb dL_law_849 rfl (lv_at hl 0 rfl) ?_
  refine lv_iconst (v := 2) hx hb dL_law_850 (by decide) ?_
  refine lv_iadd hx hb dL_law_851 ?_
  refine va_sld hx hb hX hbl hbA hS hin2 dL_law_852 ?_
  rw [← e_a_243]
  refine lv_aload_n hx hb dL_law_853 rfl (lv_at hl 1 rfl) ?_
  refine lv_iload_n hx hb dL_law_854 rfl (lv_at hl 0 rfl) ?_
  refine lv_iconst (v := 3) hx hb dL_law_855 (by decide) ?_
  refine lv_iadd hx hb dL_law_856 ?_
  refine va_sld hx hb hX hbl hbA hS hin3 dL_law_857 ?_
  rw [← e_a_244]
  refine goip (runV (As := [.int a_242, .int a_243, .int a_244]) (rest := []) hC hK hR hl.1 (c_X10_as l hG σ τ a_242 a_242.toInt.toNat rfl a_243 a_243.toInt.toNat rfl a_244 (hIM.1)) (call_b hC.ts TC_X10_as TN_X10 TM_L_111 hd_X10_as ⟨Nat.le_of_ble_eq_true rfl, Nat.le_of_ble_eq_true rfl⟩) TI_X10_as TS_X10_as (ct_model G _ _) rfl rfl rfl (Nat.le_of_ble_eq_true rfl) dL_law_858 ⟨Nat.le_of_ble_eq_true rfl, Nat.le_of_ble_eq_true rfl⟩) hS (fun v_250 H locs w_251 hR hS => ?_)
  refine lv_pop hx hb dL_law_861 rfl ?_
  refine lv_goto (tgt := 1020) hx hb dL_law_862 (by decide) ?_
  exact Tl _ _ hI _ _ _ hR hS hl
set_option maxHeartbeats 4000000 in
set_option maxRecDepth 100000 in
theorem law_c23 {p : Program} {l : Launch} {e : Env} {s : State} {m : MethodId} {below : List Frame} {meth : Method} {c : Code} {G : Gx} {b L : Nat} {xs : Nat → Int32} (hL : L ≤ 2560) (C0 : lw_At p s m meth c b L xs) (hC : Cx p s m #[Value.ref b] meth c cL_law 4 RL ret) (hK : KU G s) (hG : GOk G (fun q : Nat => s.heap.size ≤ q)) {i : Nat} {σ : SI} {τ : SL} {H : Heap} {locs : List Loc} {ls : Array Slot} (hi5 : i + 5 ≤ L) (hI : Inv6 σ) (hR : RepH G σ τ H) (hS : va_S (fun q : Nat => s.heap.size ≤ q) s.heap H locs) (hl : lv_has ls 4 [(3, .int (nI i)), (0, .ref b), (1, .ref (G.2.1 0)), (2, .ref (G.2.1 35))])
    (Tl : ∀ (σ : SI) (τ : SL), Inv6 σ → ∀ (H : Heap) (locs : List Loc) (ls : Array Slot), RepH G σ τ H → va_S (fun q : Nat => s.heap.size ≤ q) s.heap H locs → lv_has ls 4 [(3, .int (nI i)), (0, .ref b), (1, .ref (G.2.1 0)), (2, .ref (G.2.1 35))] → W p l e room_1 s m #[Value.ref b] below meth c H locs 600000 7302250 (lw_Z below #[Value.ref b] s) (F0 m 1020 ls [])) : W p l e room_1 s m #[Value.ref b] below meth c H locs 600000 7302250 (lw_Z below #[Value.ref b] s) (F0 m 865 ls []) := by
  obtain ⟨hx, hb, hr, hml, hown, hts, hX, hbl, hlocks, hgv⟩ := id C0
  have hbA : ¬ (fun q : Nat => s.heap.size ≤ q) b := Nat.not_le.mpr hbl
  obtain ⟨hI1, hRe, hEn, hR6⟩ := id hI
  obtain ⟨hIM, hIC, hRL⟩ := id hI1
  have hnI := nI_T i (by omega)
  have hnow : 0 ≤ (σ 0 8).toInt ∧ (σ 0 8).toInt ≤ 200 := by rw [hRL.1]; exact hIM.1
  have hoff : -1000000 ≤ (σ 0 12).toInt ∧ (σ 0 12).toInt ≤ 1000000 := by rw [hRL.2.2]; exact hIM.2.2.2.2.2.2.1
  have hpc : 0 ≤ (σ 0 11).toInt ∧ (σ 0 11).toInt ≤ 3599 := by rw [hRL.2.1]; exact hIM.2.2.2.2.2.2.2
  have hin1 : vp_in (nI i + (1 : Int32)) L := vin (t := (i : Int) + 1) (addI hnI (by decide) (by omega) (by omega)) (by omega) (by omega)
  have hin2 : vp_in (nI i + (2 : Int32)) L := vin (t := (i : Int) + 2) (addI hnI (by decide) (by omega) (by omega)) (by omega) (by omega)
  have hin3 : vp_in (nI i + (3 : Int32)) L := vin (t := (i : Int) + 3) (addI hnI (by decide) (by omega) (by omega)) (by omega) (by omega)
  have hin4 : vp_in (nI i + (4 : Int32)) L := vin (t := (i : Int) + 4) (addI hnI (by decide) (by omega) (by omega)) (by omega) (by omega)
  have hk6 := hk6_of hI
  have hMP := mpre_of hR6
  refine lv_aload_n hx hb dL_law_865 rfl (lv_at hl 2 rfl) ?_
  refine lv_aload_n hx hb dL_law_866 rfl (lv_at hl 1 rfl) ?_
  refine lv_iload_n hx hb dL_law_867 rfl (lv_at hl 0 rfl) ?_
  refine lv_iconst (v := 1) hx hb dL_law_868 (by decide) ?_
  refine lv_iadd hx hb dL_law_869 ?_
  refine va_sld hx hb hX hbl hbA hS hin1 dL_law_870 ?_
  refine lv_topi (fun a_252 e_a_252 => ?_)
  refine lv_aload_n hx hb dL_law_871 rfl (lv_at hl 1 rfl) ?_
  refine lv_iload_n hx hb dL_law_872 rfl (lv_at hl 0 rfl) ?_
  refine lv_iconst (v := 2) hx hb dL_law_873 (by decide) ?_
  refine lv_iadd hx hb dL_law_874 ?_
  refine va_sld hx hb hX hbl hbA hS hin2 dL_law_875 ?_
  refine lv_topi (fun a_253 e_a_253 => ?_)
  refine goip (runV (As := [.int a_252, .int a_253]) (rest := []) hC hK hR hl.1 (c_X9_paper l hG σ τ a_252 a_253 ) (call_b hC.ts TC_X9_paper TN_X9 TM_L_112 hd_X9_paper ⟨Nat.le_of_ble_eq_true rfl, Nat.le_of_ble_eq_true rfl⟩) TI_X9_paper TS_X9_paper (ct_bench G _ _) rfl rfl rfl (Nat.le_of_ble_eq_true rfl) dL_law_876 ⟨Nat.le_of_ble_eq_true rfl, Nat.le_of_ble_eq_true rfl⟩) hS (fun v_254 H locs w_255 hR hS => ?_)
  refine lv_pop hx hb dL_law_879 rfl ?_
  refine lv_aload_n hx hb dL_law_880 rfl (lv_at hl 3 rfl) ?_
  refine lv_aload_n hx hb dL_law_881 rfl (lv_at hl 1 rfl) ?_
  refine lv_iload_n hx hb dL_law_882 rfl (lv_at hl 0 rfl) ?_
  refine lv_iconst (v := 1) hx hb dL_law_883 (by decide) ?_
  refine lv_iadd hx hb dL_law_884 ?_
  refine va_sld hx hb hX hbl hbA hS hin1 dL_law_885 ?_
  rw [← e_a_252]
  refine lv_aload_n hx hb dL_law_886 rfl (lv_at hl 1 rfl) ?_
  refine lv_iload_n hx hb dL_law_887 rfl (lv_at hl 0 rfl) ?_
  refine lv_iconst (v := 2) hx hb dL_law_888 (by decide) ?_
  refine lv_iadd hx hb dL_law_889 ?_
  refine va_sld hx hb hX hbl hbA hS hin2 dL_law_890 ?_
  rw [← e_a_253]
  refine goip (runV (As := [.int a_252, .int a_253]) (rest := []) hC hK hR hl.1 (c_X10_paper l hG σ τ a_252 a_253 (hIM.1)) (call_b hC.ts TC_X10_paper TN_X10 TM_L_115 hd_X10_paper ⟨Nat.le_of_ble_eq_true rfl, Nat.le_of_ble_eq_true rfl⟩) TI_X10_paper TS_X10_paper (ct_model G _ _) rfl rfl rfl (Nat.le_of_ble_eq_true rfl) dL_law_891 ⟨Nat.le_of_ble_eq_true rfl, Nat.le_of_ble_eq_true rfl⟩) hS (fun v_258 H locs w_259 hR hS => ?_)
  refine lv_pop hx hb dL_law_894 rfl ?_
  refine lv_goto (tgt := 1020) hx hb dL_law_895 (by decide) ?_
  exact Tl _ _ hI _ _ _ hR hS hl
set_option maxHeartbeats 4000000 in
set_option maxRecDepth 100000 in
theorem law_c24 {p : Program} {l : Launch} {e : Env} {s : State} {m : MethodId} {below : List Frame} {meth : Method} {c : Code} {G : Gx} {b L : Nat} {xs : Nat → Int32} (hL : L ≤ 2560) (C0 : lw_At p s m meth c b L xs) (hC : Cx p s m #[Value.ref b] meth c cL_law 4 RL ret) (hK : KU G s) (hG : GOk G (fun q : Nat => s.heap.size ≤ q)) {i : Nat} {σ : SI} {τ : SL} {H : Heap} {locs : List Loc} {ls : Array Slot} (hi5 : i + 5 ≤ L) (hI : Inv6 σ) (hR : RepH G σ τ H) (hS : va_S (fun q : Nat => s.heap.size ≤ q) s.heap H locs) (hl : lv_has ls 4 [(3, .int (nI i)), (0, .ref b), (1, .ref (G.2.1 0)), (2, .ref (G.2.1 35))])
    (Tl : ∀ (σ : SI) (τ : SL), Inv6 σ → ∀ (H : Heap) (locs : List Loc) (ls : Array Slot), RepH G σ τ H → va_S (fun q : Nat => s.heap.size ≤ q) s.heap H locs → lv_has ls 4 [(3, .int (nI i)), (0, .ref b), (1, .ref (G.2.1 0)), (2, .ref (G.2.1 35))] → W p l e room_1 s m #[Value.ref b] below meth c H locs 600000 7302250 (lw_Z below #[Value.ref b] s) (F0 m 1020 ls [])) : W p l e room_1 s m #[Value.ref b] below meth c H locs 600000 7302250 (lw_Z below #[Value.ref b] s) (F0 m 898 ls []) := by
  obtain ⟨hx, hb, hr, hml, hown, hts, hX, hbl, hlocks, hgv⟩ := id C0
  have hbA : ¬ (fun q : Nat => s.heap.size ≤ q) b := Nat.not_le.mpr hbl
  obtain ⟨hI1, hRe, hEn, hR6⟩ := id hI
  obtain ⟨hIM, hIC, hRL⟩ := id hI1
  have hnI := nI_T i (by omega)
  have hnow : 0 ≤ (σ 0 8).toInt ∧ (σ 0 8).toInt ≤ 200 := by rw [hRL.1]; exact hIM.1
  have hoff : -1000000 ≤ (σ 0 12).toInt ∧ (σ 0 12).toInt ≤ 1000000 := by rw [hRL.2.2]; exact hIM.2.2.2.2.2.2.1
  have hpc : 0 ≤ (σ 0 11).toInt ∧ (σ 0 11).toInt ≤ 3599 := by rw [hRL.2.1]; exact hIM.2.2.2.2.2.2.2
  have hin1 : vp_in (nI i + (1 : Int32)) L := vin (t := (i : Int) + 1) (addI hnI (by decide) (by omega) (by omega)) (by omega) (by omega)
  have hin2 : vp_in (nI i + (2 : Int32)) L := vin (t := (i : Int) + 2) (addI hnI (by decide) (by omega) (by omega)) (by omega) (by omega)
  have hin3 : vp_in (nI i + (3 : Int32)) L := vin (t := (i : Int) + 3) (addI hnI (by decide) (by omega) (by omega)) (by omega) (by omega)
  have hin4 : vp_in (nI i + (4 : Int32)) L := vin (t := (i : Int) + 4) (addI hnI (by decide) (by omega) (by omega)) (by omega) (by omega)
  have hk6 := hk6_of hI
  have hMP := mpre_of hR6
  refine lv_aload_n hx hb dL_law_898 rfl (lv_at hl 2 rfl) ?_
  refine lv_aload_n hx hb dL_law_899 rfl (lv_at hl 1 rfl) ?_
  refine lv_iload_n hx hb dL_law_900 rfl (lv_at hl 0 rfl) ?_
  refine lv_iconst (v := 1) hx hb dL_law_901 (by decide) ?_
  refine lv_iadd hx hb dL_law_902 ?_
  refine va_sld hx hb hX hbl hbA hS hin1 dL_law_903 ?_
  refine lv_topi (fun a_260 e_a_260 => ?_)
  refine lv_aload_n hx hb dL_law_904 rfl (lv_at hl 1 rfl) ?_
  refine lv_iload_n hx hb dL_law_905 rfl (lv_at hl 0 rfl) ?_
  refine lv_iconst (v := 2) hx hb dL_law_906 (by decide) ?_
  refine lv_iadd hx hb dL_law_907 ?_
  refine va_sld hx hb hX hbl hbA hS hin2 dL_law_908 ?_
  refine lv_topi (fun a_261 e_a_261 => ?_)
  refine goip (runV (As := [.int a_260, .int a_261]) (rest := []) hC hK hR hl.1 (c8_X9_step l hG σ τ a_260 a_261 ) (call_b hC.ts TC_X9_step TN_X9 TM_L_116 hd_X9_step ⟨Nat.le_of_ble_eq_true rfl, Nat.le_of_ble_eq_true rfl⟩) TI_X9_step TS_X9_step (ct_bench G _ _) rfl rfl rfl (Nat.le_of_ble_eq_true rfl) dL_law_909 ⟨Nat.le_of_ble_eq_true rfl, Nat.le_of_ble_eq_true rfl⟩) hS (fun v_262 H locs w_263 hR hS => ?_)
  refine lv_aload_n hx hb dL_law_912 rfl (lv_at hl 3 rfl) ?_
  refine lv_aload_n hx hb dL_law_913 rfl (lv_at hl 1 rfl) ?_
  refine lv_iload_n hx hb dL_law_914 rfl (lv_at hl 0 rfl) ?_
  refine lv_iconst (v := 1) hx hb dL_law_915 (by decide) ?_
  refine lv_iadd hx hb dL_law_916 ?_
  refine va_sld hx hb hX hbl hbA hS hin1 dL_law_917 ?_
  rw [← e_a_260]
  refine lv_aload_n hx hb dL_law_918 rfl (lv_at hl 1 rfl) ?_
  refine lv_iload_n hx hb dL_law_919 rfl (lv_at hl 0 rfl) ?_
  refine lv_iconst (v := 2) hx hb dL_law_920 (by decide) ?_
  refine lv_iadd hx hb dL_law_921 ?_
  refine va_sld hx hb hX hbl hbA hS hin2 dL_law_922 ?_
  rw [← e_a_261]
  refine goip (runV (As := [.int a_260, .int a_261]) (rest := [.int v_262]) hC hK hR hl.1 (c8_X10_step l hG σ τ a_260 a_261 (hIM.2.2.2.2.1.2.2.2)) (call_b hC.ts TC_X10_step TN_X10 TM_L_119 hd_X10_step ⟨Nat.le_of_ble_eq_true rfl, Nat.le_of_ble_eq_true rfl⟩) TI_X10_step TS_X10_step (ct_model G _ _) rfl rfl rfl (Nat.le_of_ble_eq_true rfl) dL_law_923 ⟨Nat.le_of_ble_eq_true rfl, Nat.le_of_ble_eq_true rfl⟩) hS (fun v_266 H locs w_267 hR hS => ?_)
  have hag : v_262 = v_266 := ag_step hI w_263 w_267
  refine bi_eq (tgt := 1020) (a := v_262.toInt) (b := v_266.toInt) hx hb rfl rfl dL_law_926 (by decide) (fun c_268 => ?_) (fun c_268 => absurd (congrArg Int32.toInt hag) c_268)
  exact Tl _ _ hI _ _ _ hR hS hl
set_option maxHeartbeats 4000000 in
set_option maxRecDepth 100000 in
theorem law_c25 {p : Program} {l : Launch} {e : Env} {s : State} {m : MethodId} {below : List Frame} {meth : Method} {c : Code} {G : Gx} {b L : Nat} {xs : Nat → Int32} (hL : L ≤ 2560) (C0 : lw_At p s m meth c b L xs) (hC : Cx p s m #[Value.ref b] meth c cL_law 4 RL ret) (hK : KU G s) (hG : GOk G (fun q : Nat => s.heap.size ≤ q)) {i : Nat} {σ : SI} {τ : SL} {H : Heap} {locs : List Loc} {ls : Array Slot} (hi5 : i + 5 ≤ L) (hI : Inv6 σ) (hR : RepH G σ τ H) (hS : va_S (fun q : Nat => s.heap.size ≤ q) s.heap H locs) (hl : lv_has ls 4 [(3, .int (nI i)), (0, .ref b), (1, .ref (G.2.1 0)), (2, .ref (G.2.1 35))])
    (Tl : ∀ (σ : SI) (τ : SL), Inv6 σ → ∀ (H : Heap) (locs : List Loc) (ls : Array Slot), RepH G σ τ H → va_S (fun q : Nat => s.heap.size ≤ q) s.heap H locs → lv_has ls 4 [(3, .int (nI i)), (0, .ref b), (1, .ref (G.2.1 0)), (2, .ref (G.2.1 35))] → W p l e room_1 s m #[Value.ref b] below meth c H locs 600000 7302250 (lw_Z below #[Value.ref b] s) (F0 m 1020 ls [])) : W p l e room_1 s m #[Value.ref b] below meth c H locs 600000 7302250 (lw_Z below #[Value.ref b] s) (F0 m 931 ls []) := by
  obtain ⟨hx, hb, hr, hml, hown, hts, hX, hbl, hlocks, hgv⟩ := id C0
  have hbA : ¬ (fun q : Nat => s.heap.size ≤ q) b := Nat.not_le.mpr hbl
  obtain ⟨hI1, hRe, hEn, hR6⟩ := id hI
  obtain ⟨hIM, hIC, hRL⟩ := id hI1
  have hnI := nI_T i (by omega)
  have hnow : 0 ≤ (σ 0 8).toInt ∧ (σ 0 8).toInt ≤ 200 := by rw [hRL.1]; exact hIM.1
  have hoff : -1000000 ≤ (σ 0 12).toInt ∧ (σ 0 12).toInt ≤ 1000000 := by rw [hRL.2.2]; exact hIM.2.2.2.2.2.2.1
  have hpc : 0 ≤ (σ 0 11).toInt ∧ (σ 0 11).toInt ≤ 3599 := by rw [hRL.2.1]; exact hIM.2.2.2.2.2.2.2
  have hin1 : vp_in (nI i + (1 : Int32)) L := vin (t := (i : Int) + 1) (addI hnI (by decide) (by omega) (by omega)) (by omega) (by omega)
  have hin2 : vp_in (nI i + (2 : Int32)) L := vin (t := (i : Int) + 2) (addI hnI (by decide) (by omega) (by omega)) (by omega) (by omega)
  have hin3 : vp_in (nI i + (3 : Int32)) L := vin (t := (i : Int) + 3) (addI hnI (by decide) (by omega) (by omega)) (by omega) (by omega)
  have hin4 : vp_in (nI i + (4 : Int32)) L := vin (t := (i : Int) + 4) (addI hnI (by decide) (by omega) (by omega)) (by omega) (by omega)
  have hk6 := hk6_of hI
  have hMP := mpre_of hR6
  refine lv_aload_n hx hb dL_law_931 rfl (lv_at hl 2 rfl) ?_
  refine lv_aload_n hx hb dL_law_932 rfl (lv_at hl 1 rfl) ?_
  refine lv_iload_n hx hb dL_law_933 rfl (lv_at hl 0 rfl) ?_
  refine lv_iconst (v := 1) hx hb dL_law_934 (by decide) ?_
  refine lv_iadd hx hb dL_law_935 ?_
  refine va_sld hx hb hX hbl hbA hS hin1 dL_law_936 ?_
  refine lv_topi (fun a_269 e_a_269 => ?_)
  refine goi (runV (As := [.int a_269]) (rest := []) hC hK hR hl.1 (c_X9_show l hG σ τ a_269 ) (call_b hC.ts TC_X9_show TN_X9 TM_L_120 hd_X9_show ⟨Nat.le_of_ble_eq_true rfl, Nat.le_of_ble_eq_true rfl⟩) TI_X9_show TS_X9_show (ct_bench G _ _) rfl rfl rfl (Nat.le_of_ble_eq_true rfl) dL_law_937 ⟨Nat.le_of_ble_eq_true rfl, Nat.le_of_ble_eq_true rfl⟩) hS (fun v_270 s_272 t_273 H locs w_271 hR hS => ?_)
  refine lv_pop hx hb dL_law_940 rfl ?_
  refine lv_aload_n hx hb dL_law_941 rfl (lv_at hl 3 rfl) ?_
  refine lv_aload_n hx hb dL_law_942 rfl (lv_at hl 1 rfl) ?_
  refine lv_iload_n hx hb dL_law_943 rfl (lv_at hl 0 rfl) ?_
  refine lv_iconst (v := 1) hx hb dL_law_944 (by decide) ?_
  refine lv_iadd hx hb dL_law_945 ?_
  refine va_sld hx hb hX hbl hbA hS hin1 dL_law_946 ?_
  rw [← e_a_269]
  refine goi (runV (As := [.int a_269]) (rest := []) hC hK hR hl.1 (c_X10_show l hG s_272 t_273 a_269 ) (call_b hC.ts TC_X10_show TN_X10 TM_L_124 hd_X10_show ⟨Nat.le_of_ble_eq_true rfl, Nat.le_of_ble_eq_true rfl⟩) TI_X10_show TS_X10_show (ct_model G _ _) rfl rfl rfl (Nat.le_of_ble_eq_true rfl) dL_law_947 ⟨Nat.le_of_ble_eq_true rfl, Nat.le_of_ble_eq_true rfl⟩) hS (fun v_275 s_277 t_278 H locs w_276 hR hS => ?_)
  refine lv_pop hx hb dL_law_950 rfl ?_
  refine lv_goto (tgt := 1020) hx hb dL_law_951 (by decide) ?_
  exact Tl _ _ ⟨(inv_show hI1 w_271 w_276).1, rel_show hRe w_271 w_276, ((hEn.ex (k3_xshow w_271)).ex (k3_show w_276)), rel6_show hR6 w_271 w_276⟩ _ _ _ hR hS hl
set_option maxHeartbeats 4000000 in
set_option maxRecDepth 100000 in
theorem law_c26 {p : Program} {l : Launch} {e : Env} {s : State} {m : MethodId} {below : List Frame} {meth : Method} {c : Code} {G : Gx} {b L : Nat} {xs : Nat → Int32} (hL : L ≤ 2560) (C0 : lw_At p s m meth c b L xs) (hC : Cx p s m #[Value.ref b] meth c cL_law 4 RL ret) (hK : KU G s) (hG : GOk G (fun q : Nat => s.heap.size ≤ q)) {i : Nat} {σ : SI} {τ : SL} {H : Heap} {locs : List Loc} {ls : Array Slot} (hi5 : i + 5 ≤ L) (hI : Inv6 σ) (hR : RepH G σ τ H) (hS : va_S (fun q : Nat => s.heap.size ≤ q) s.heap H locs) (hl : lv_has ls 4 [(3, .int (nI i)), (0, .ref b), (1, .ref (G.2.1 0)), (2, .ref (G.2.1 35))])
    (Tl : ∀ (σ : SI) (τ : SL), Inv6 σ → ∀ (H : Heap) (locs : List Loc) (ls : Array Slot), RepH G σ τ H → va_S (fun q : Nat => s.heap.size ≤ q) s.heap H locs → lv_has ls 4 [(3, .int (nI i)), (0, .ref b), (1, .ref (G.2.1 0)), (2, .ref (G.2.1 35))] → W p l e room_1 s m #[Value.ref b] below meth c H locs 600000 7302250 (lw_Z below #[Value.ref b] s) (F0 m 1020 ls [])) : W p l e room_1 s m #[Value.ref b] below meth c H locs 600000 7302250 (lw_Z below #[Value.ref b] s) (F0 m 954 ls []) := by
  obtain ⟨hx, hb, hr, hml, hown, hts, hX, hbl, hlocks, hgv⟩ := id C0
  have hbA : ¬ (fun q : Nat => s.heap.size ≤ q) b := Nat.not_le.mpr hbl
  obtain ⟨hI1, hRe, hEn, hR6⟩ := id hI
  obtain ⟨hIM, hIC, hRL⟩ := id hI1
  have hnI := nI_T i (by omega)
  have hnow : 0 ≤ (σ 0 8).toInt ∧ (σ 0 8).toInt ≤ 200 := by rw [hRL.1]; exact hIM.1
  have hoff : -1000000 ≤ (σ 0 12).toInt ∧ (σ 0 12).toInt ≤ 1000000 := by rw [hRL.2.2]; exact hIM.2.2.2.2.2.2.1
  have hpc : 0 ≤ (σ 0 11).toInt ∧ (σ 0 11).toInt ≤ 3599 := by rw [hRL.2.1]; exact hIM.2.2.2.2.2.2.2
  have hin1 : vp_in (nI i + (1 : Int32)) L := vin (t := (i : Int) + 1) (addI hnI (by decide) (by omega) (by omega)) (by omega) (by omega)
  have hin2 : vp_in (nI i + (2 : Int32)) L := vin (t := (i : Int) + 2) (addI hnI (by decide) (by omega) (by omega)) (by omega) (by omega)
  have hin3 : vp_in (nI i + (3 : Int32)) L := vin (t := (i : Int) + 3) (addI hnI (by decide) (by omega) (by omega)) (by omega) (by omega)
  have hin4 : vp_in (nI i + (4 : Int32)) L := vin (t := (i : Int) + 4) (addI hnI (by decide) (by omega) (by omega)) (by omega) (by omega)
  have hk6 := hk6_of hI
  have hMP := mpre_of hR6
  refine lv_aload_n hx hb dL_law_954 rfl (lv_at hl 2 rfl) ?_
  refine goip (runV (As := []) (rest := []) hC hK hR hl.1 (c_X9_off l hG σ τ  ) (call_b hC.ts TC_X9_off TN_X9 TM_L_125 hd_X9_off ⟨Nat.le_of_ble_eq_true rfl, Nat.le_of_ble_eq_true rfl⟩) TI_X9_off TS_X9_off (ct_bench G _ _) rfl rfl rfl (Nat.le_of_ble_eq_true rfl) dL_law_955 ⟨Nat.le_of_ble_eq_true rfl, Nat.le_of_ble_eq_true rfl⟩) hS (fun v_279 H locs w_280 hR hS => ?_)
  refine lv_pop hx hb dL_law_958 rfl ?_
  refine lv_aload_n hx hb dL_law_959 rfl (lv_at hl 3 rfl) ?_
  refine goip (runV (As := []) (rest := []) hC hK hR hl.1 (c_X10_off l hG σ τ  ) (call_b hC.ts TC_X10_off TN_X10 TM_L_128 hd_X10_off ⟨Nat.le_of_ble_eq_true rfl, Nat.le_of_ble_eq_true rfl⟩) TI_X10_off TS_X10_off (ct_model G _ _) rfl rfl rfl (Nat.le_of_ble_eq_true rfl) dL_law_960 ⟨Nat.le_of_ble_eq_true rfl, Nat.le_of_ble_eq_true rfl⟩) hS (fun v_281 H locs w_282 hR hS => ?_)
  refine lv_pop hx hb dL_law_963 rfl ?_
  refine lv_goto (tgt := 1020) hx hb dL_law_964 (by decide) ?_
  exact Tl _ _ hI _ _ _ hR hS hl
set_option maxHeartbeats 4000000 in
set_option maxRecDepth 100000 in
theorem law_c27 {p : Program} {l : Launch} {e : Env} {s : State} {m : MethodId} {below : List Frame} {meth : Method} {c : Code} {G : Gx} {b L : Nat} {xs : Nat → Int32} (hL : L ≤ 2560) (C0 : lw_At p s m meth c b L xs) (hC : Cx p s m #[Value.ref b] meth c cL_law 4 RL ret) (hK : KU G s) (hG : GOk G (fun q : Nat => s.heap.size ≤ q)) {i : Nat} {σ : SI} {τ : SL} {H : Heap} {locs : List Loc} {ls : Array Slot} (hi5 : i + 5 ≤ L) (hI : Inv6 σ) (hR : RepH G σ τ H) (hS : va_S (fun q : Nat => s.heap.size ≤ q) s.heap H locs) (hl : lv_has ls 4 [(3, .int (nI i)), (0, .ref b), (1, .ref (G.2.1 0)), (2, .ref (G.2.1 35))])
    (Tl : ∀ (σ : SI) (τ : SL), Inv6 σ → ∀ (H : Heap) (locs : List Loc) (ls : Array Slot), RepH G σ τ H → va_S (fun q : Nat => s.heap.size ≤ q) s.heap H locs → lv_has ls 4 [(3, .int (nI i)), (0, .ref b), (1, .ref (G.2.1 0)), (2, .ref (G.2.1 35))] → W p l e room_1 s m #[Value.ref b] below meth c H locs 600000 7302250 (lw_Z below #[Value.ref b] s) (F0 m 1020 ls [])) : W p l e room_1 s m #[Value.ref b] below meth c H locs 600000 7302250 (lw_Z below #[Value.ref b] s) (F0 m 967 ls []) := by
  obtain ⟨hx, hb, hr, hml, hown, hts, hX, hbl, hlocks, hgv⟩ := id C0
  have hbA : ¬ (fun q : Nat => s.heap.size ≤ q) b := Nat.not_le.mpr hbl
  obtain ⟨hI1, hRe, hEn, hR6⟩ := id hI
  obtain ⟨hIM, hIC, hRL⟩ := id hI1
  have hnI := nI_T i (by omega)
  have hnow : 0 ≤ (σ 0 8).toInt ∧ (σ 0 8).toInt ≤ 200 := by rw [hRL.1]; exact hIM.1
  have hoff : -1000000 ≤ (σ 0 12).toInt ∧ (σ 0 12).toInt ≤ 1000000 := by rw [hRL.2.2]; exact hIM.2.2.2.2.2.2.1
  have hpc : 0 ≤ (σ 0 11).toInt ∧ (σ 0 11).toInt ≤ 3599 := by rw [hRL.2.1]; exact hIM.2.2.2.2.2.2.2
  have hin1 : vp_in (nI i + (1 : Int32)) L := vin (t := (i : Int) + 1) (addI hnI (by decide) (by omega) (by omega)) (by omega) (by omega)
  have hin2 : vp_in (nI i + (2 : Int32)) L := vin (t := (i : Int) + 2) (addI hnI (by decide) (by omega) (by omega)) (by omega) (by omega)
  have hin3 : vp_in (nI i + (3 : Int32)) L := vin (t := (i : Int) + 3) (addI hnI (by decide) (by omega) (by omega)) (by omega) (by omega)
  have hin4 : vp_in (nI i + (4 : Int32)) L := vin (t := (i : Int) + 4) (addI hnI (by decide) (by omega) (by omega)) (by omega) (by omega)
  have hk6 := hk6_of hI
  have hMP := mpre_of hR6
  refine lv_aload_n hx hb dL_law_967 rfl (lv_at hl 2 rfl) ?_
  refine lv_aload_n hx hb dL_law_968 rfl (lv_at hl 1 rfl) ?_
  refine lv_iload_n hx hb dL_law_969 rfl (lv_at hl 0 rfl) ?_
  refine lv_iconst (v := 1) hx hb dL_law_970 (by decide) ?_
  refine lv_iadd hx hb dL_law_971 ?_
  refine va_sld hx hb hX hbl hbA hS hin1 dL_law_972 ?_
  refine lv_topi (fun a_283 e_a_283 => ?_)
  refine lv_aload_n hx hb dL_law_973 rfl (lv_at hl 1 rfl) ?_
  refine lv_iload_n hx hb dL_law_974 rfl (lv_at hl 0 rfl) ?_
  refine lv_iconst (v := 2) hx hb dL_law_975 (by decide) ?_
  refine lv_iadd hx hb dL_law_976 ?_
  refine va_sld hx hb hX hbl hbA hS hin2 dL_law_977 ?_
  refine lv_topi (fun a_284 e_a_284 => ?_)
  refine lv_aload_n hx hb dL_law_978 rfl (lv_at hl 1 rfl) ?_
  refine lv_iload_n hx hb dL_law_979 rfl (lv_at hl 0 rfl) ?_
  refine lv_iconst (v := 3) hx hb dL_law_980 (by decide) ?_
  refine lv_iadd hx hb dL_law_981 ?_
  refine va_sld hx hb hX hbl hbA hS hin3 dL_law_982 ?_
  refine lv_topi (fun a_285 e_a_285 => ?_)
  refine lv_aload_n hx hb dL_law_983 rfl (lv_at hl 1 rfl) ?_
  refine lv_iload_n hx hb dL_law_984 rfl (lv_at hl 0 rfl) ?_
  refine lv_iconst (v := 4) hx hb dL_law_985 (by decide) ?_
  refine lv_iadd hx hb dL_law_986 ?_
  refine va_sld hx hb hX hbl hbA hS hin4 dL_law_987 ?_
  refine lv_topi (fun a_286 e_a_286 => ?_)
  refine goip (runV (As := [.int a_283, .int a_284, .int a_285, .int a_286]) (rest := []) hC hK hR hl.1 (c_X9_ring l hG σ τ a_283 a_284 a_285 a_286 ) (call_b hC.ts TC_X9_ring TN_X9 TM_L_129 hd_X9_ring ⟨Nat.le_of_ble_eq_true rfl, Nat.le_of_ble_eq_true rfl⟩) TI_X9_ring TS_X9_ring (ct_bench G _ _) rfl rfl rfl (Nat.le_of_ble_eq_true rfl) dL_law_988 ⟨Nat.le_of_ble_eq_true rfl, Nat.le_of_ble_eq_true rfl⟩) hS (fun v_287 H locs w_288 hR hS => ?_)
  refine lv_pop hx hb dL_law_991 rfl ?_
  refine lv_aload_n hx hb dL_law_992 rfl (lv_at hl 3 rfl) ?_
  refine lv_aload_n hx hb dL_law_993 rfl (lv_at hl 1 rfl) ?_
  refine lv_iload_n hx hb dL_law_994 rfl (lv_at hl 0 rfl) ?_
  refine lv_iconst (v := 1) hx hb dL_law_995 (by decide) ?_
  refine lv_iadd hx hb dL_law_996 ?_
  refine va_sld hx hb hX hbl hbA hS hin1 dL_law_997 ?_
  rw [← e_a_283]
  refine lv_aload_n hx hb dL_law_998 rfl (lv_at hl 1 rfl) ?_
  refine lv_iload_n hx hb dL_law_999 rfl (lv_at hl 0 rfl) ?_
  refine lv_iconst (v := 2) hx hb dL_law_1000 (by decide) ?_
  refine lv_iadd hx hb dL_law_1001 ?_
  refine va_sld hx hb hX hbl hbA hS hin2 dL_law_1002 ?_
  rw [← e_a_284]
  refine lv_aload_n hx hb dL_law_1003 rfl (lv_at hl 1 rfl) ?_
  refine lv_iload_n hx hb dL_law_1004 rfl (lv_at hl 0 rfl) ?_
  refine lv_iconst (v := 3) hx hb dL_law_1005 (by decide) ?_
  refine lv_iadd hx hb dL_law_1006 ?_
  refine va_sld hx hb hX hbl hbA hS hin3 dL_law_1007 ?_
  rw [← e_a_285]
  refine lv_aload_n hx hb dL_law_1008 rfl (lv_at hl 1 rfl) ?_
  refine lv_iload_n hx hb dL_law_1009 rfl (lv_at hl 0 rfl) ?_
  refine lv_iconst (v := 4) hx hb dL_law_1010 (by decide) ?_
  refine lv_iadd hx hb dL_law_1011 ?_
  refine va_sld hx hb hX hbl hbA hS hin4 dL_law_1012 ?_
  rw [← e_a_286]
  refine goip (runV (As := [.int a_283, .int a_284, .int a_285, .int a_286]) (rest := []) hC hK hR hl.1 (c_X10_ring l hG σ τ a_283 a_283.toInt.toNat rfl a_284 a_284.toInt.toNat rfl a_285 a_285.toInt.toNat rfl a_286 a_286.toInt.toNat rfl (hIM.1)) (call_b hC.ts TC_X10_ring TN_X10 TM_L_132 hd_X10_ring ⟨Nat.le_of_ble_eq_true rfl, Nat.le_of_ble_eq_true rfl⟩) TI_X10_ring TS_X10_ring (ct_model G _ _) rfl rfl rfl (Nat.le_of_ble_eq_true rfl) dL_law_1013 ⟨Nat.le_of_ble_eq_true rfl, Nat.le_of_ble_eq_true rfl⟩) hS (fun v_293 H locs w_294 hR hS => ?_)
  refine lv_pop hx hb dL_law_1016 rfl ?_
  refine lv_goto (tgt := 1020) hx hb dL_law_1017 (by decide) ?_
  exact Tl _ _ hI _ _ _ hR hS hl
set_option maxHeartbeats 4000000 in
set_option maxRecDepth 100000 in
theorem law_loop {p : Program} {l : Launch} {e : Env} {s : State} {m : MethodId} {below : List Frame} {meth : Method} {c : Code} {G : Gx} {b L : Nat} {xs : Nat → Int32} (hL : L ≤ 2560) (C0 : lw_At p s m meth c b L xs) (hC : Cx p s m #[Value.ref b] meth c cL_law 4 RL ret) (hK : KU G s) (hG : GOk G (fun q : Nat => s.heap.size ≤ q)) : ∀ (F i : Nat), L - i < F → i ≤ L → ∀ (σ : SI) (τ : SL), Inv6 σ → ∀ (H : Heap) (locs : List Loc) (ls : Array Slot), RepH G σ τ H → va_S (fun q : Nat => s.heap.size ≤ q) s.heap H locs → lv_has ls 4 [(3, .int (nI i)), (0, .ref b), (1, .ref (G.2.1 0)), (2, .ref (G.2.1 35))] → W p l e room_1 s m #[Value.ref b] below meth c H locs 600000 7302250 (lw_Z below #[Value.ref b] s) (F0 m 18 ls []) := by
  obtain ⟨hx, hb, hr, hml, hown, hts, hX, hbl, hlocks, hgv⟩ := id C0
  have hbA : ¬ (fun q : Nat => s.heap.size ≤ q) b := Nat.not_le.mpr hbl
  have hLn : (Int32.ofNat L).toInt = (L : Int) := nI_T L (by omega)
  intro F
  induction F with
  | zero => intro i hm; exact absurd hm (Nat.not_lt_zero _)
  | succ F ih =>
    intro i hm hiL σ τ hI H locs ls hR hS hl
    have hnI := nI_T i (by omega)
    refine lv_iload_n hx hb dL_law_18 rfl (lv_at hl 0 rfl) ?_
    refine lv_aload_n hx hb dL_law_19 rfl (lv_at hl 1 rfl) ?_
    refine va_slen hx hb hX hbl hbA hS dL_law_20 ?_
    refine lv_iconst (v := 5) hx hb dL_law_21 (by decide) ?_
    refine lv_isub hx hb dL_law_22 ?_
    have hL5 : (Int32.ofNat L - (5 : Int32)).toInt = (L : Int) - 5 := subI hLn (by decide) (by omega) (by omega)
    refine bi_gt (tgt := 1026) (a := (i : Int)) (b := (L : Int) - 5) hx hb hnI hL5 dL_law_23 (by decide) (fun c_1 => ?_) (fun c_1 => ?_)
    · refine lv_iconst (v := 1) hx hb dL_law_1026 (by decide) ?_
      refine va_forget (fun q hq => hS.2.2 q hq) ?_
      exact lw_ret hx hb hr hlocks dL_law_1027
    · have hi5 : i + 5 ≤ L := by omega
      have Tl : ∀ (σ : SI) (τ : SL), Inv6 σ → ∀ (H : Heap) (locs : List Loc) (ls : Array Slot), RepH G σ τ H → va_S (fun q : Nat => s.heap.size ≤ q) s.heap H locs → lv_has ls 4 [(3, .int (nI i)), (0, .ref b), (1, .ref (G.2.1 0)), (2, .ref (G.2.1 35))] → W p l e room_1 s m #[Value.ref b] below meth c H locs 600000 7302250 (lw_Z below #[Value.ref b] s) (F0 m 1020 ls []) := by
        intro σ τ hI H locs ls hR hS hl
        refine lv_iinc (v := nI (i + 5)) (lv' := [(3, .int (nI (i + 5))), (0, .ref b), (1, .ref (G.2.1 0)), (2, .ref (G.2.1 35))]) hx hb dL_law_1020 hl (k := 0) rfl (by rw [← (show nI 5 = Int32.ofInt 5 from by decide)]; exact nI_add i 5) (by decide) rfl (fun ls hl => ?_)
        refine lv_goto (tgt := 18) hx hb dL_law_1023 (by decide) ?_
        exact ih (i + 5) (by omega) hi5 σ τ hI H locs ls hR hS (lv_sub hl [0, 1, 2, 3] rfl)
      refine lv_aload_n hx hb dL_law_26 rfl (lv_at hl 1 rfl) ?_
      refine lv_iload_n hx hb dL_law_27 rfl (lv_at hl 0 rfl) ?_
      refine va_sld hx hb hX hbl hbA hS (vin (t := (i : Int)) hnI (by omega) (by omega)) dL_law_28 ?_
      refine lv_bipush (v := 31) hx hb dL_law_29 (by decide) ?_
      refine lv_iand hx hb dL_law_31 ?_
      refine lv_topi (fun k ek => ?_)
      have sw : k.toInt = 0 ∨ k.toInt = 1 ∨ k.toInt = 2 ∨ k.toInt = 3 ∨ k.toInt = 4 ∨ k.toInt = 5 ∨ k.toInt = 6 ∨ k.toInt = 7 ∨ k.toInt = 8 ∨ k.toInt = 9 ∨ k.toInt = 10 ∨ k.toInt = 11 ∨ k.toInt = 12 ∨ k.toInt = 13 ∨ k.toInt = 14 ∨ k.toInt = 15 ∨ k.toInt = 16 ∨ k.toInt = 17 ∨ k.toInt = 18 ∨ k.toInt = 19 ∨ k.toInt = 20 ∨ k.toInt = 21 ∨ k.toInt = 22 ∨ k.toInt = 23 ∨ k.toInt = 24 ∨ k.toInt = 25 ∨ k.toInt = 26 ∨ k.toInt = 27 ∨ (k.toInt < 0 ∨ 27 < k.toInt) := by omega
      rcases sw with sw | sw | sw | sw | sw | sw | sw | sw | sw | sw | sw | sw | sw | sw | sw | sw | sw | sw | sw | sw | sw | sw | sw | sw | sw | sw | sw | sw | sw
      · refine lv_tableIn (tgt := 160) hx hb dL_law_32 (by omega) (by omega) (by rw [sw]; rfl) (by decide) ?_
        exact law_c0 hL C0 hC hK hG hi5 hI hR hS hl Tl
      · refine lv_tableIn (tgt := 213) hx hb dL_law_32 (by omega) (by omega) (by rw [sw]; rfl) (by decide) ?_
        exact law_c1 hL C0 hC hK hG hi5 hI hR hS hl Tl
      · refine lv_tableIn (tgt := 236) hx hb dL_law_32 (by omega) (by omega) (by rw [sw]; rfl) (by decide) ?_
        exact law_c2 hL C0 hC hK hG hi5 hI hR hS hl Tl
      · refine lv_tableIn (tgt := 259) hx hb dL_law_32 (by omega) (by omega) (by rw [sw]; rfl) (by decide) ?_
        exact law_c3 hL C0 hC hK hG hi5 hI hR hS hl Tl
      · refine lv_tableIn (tgt := 292) hx hb dL_law_32 (by omega) (by omega) (by rw [sw]; rfl) (by decide) ?_
        exact law_c4 hL C0 hC hK hG hi5 hI hR hS hl Tl
      · refine lv_tableIn (tgt := 325) hx hb dL_law_32 (by omega) (by omega) (by rw [sw]; rfl) (by decide) ?_
        exact law_c5 hL C0 hC hK hG hi5 hI hR hS hl Tl
      · refine lv_tableIn (tgt := 348) hx hb dL_law_32 (by omega) (by omega) (by rw [sw]; rfl) (by decide) ?_
        exact law_c6 hL C0 hC hK hG hi5 hI hR hS hl Tl
      · refine lv_tableIn (tgt := 381) hx hb dL_law_32 (by omega) (by omega) (by rw [sw]; rfl) (by decide) ?_
        exact law_c7 hL C0 hC hK hG hi5 hI hR hS hl Tl
      · refine lv_tableIn (tgt := 414) hx hb dL_law_32 (by omega) (by omega) (by rw [sw]; rfl) (by decide) ?_
        exact law_c8 hL C0 hC hK hG hi5 hI hR hS hl Tl
      · refine lv_tableIn (tgt := 457) hx hb dL_law_32 (by omega) (by omega) (by rw [sw]; rfl) (by decide) ?_
        exact law_c9 hL C0 hC hK hG hi5 hI hR hS hl Tl
      · refine lv_tableIn (tgt := 500) hx hb dL_law_32 (by omega) (by omega) (by rw [sw]; rfl) (by decide) ?_
        exact law_c10 hL C0 hC hK hG hi5 hI hR hS hl Tl
      · refine lv_tableIn (tgt := 523) hx hb dL_law_32 (by omega) (by omega) (by rw [sw]; rfl) (by decide) ?_
        exact law_c11 hL C0 hC hK hG hi5 hI hR hS hl Tl
      · refine lv_tableIn (tgt := 546) hx hb dL_law_32 (by omega) (by omega) (by rw [sw]; rfl) (by decide) ?_
        exact law_c12 hL C0 hC hK hG hi5 hI hR hS hl Tl
      · refine lv_tableIn (tgt := 569) hx hb dL_law_32 (by omega) (by omega) (by rw [sw]; rfl) (by decide) ?_
        exact law_c13 hL C0 hC hK hG hi5 hI hR hS hl Tl
      · refine lv_tableIn (tgt := 618) hx hb dL_law_32 (by omega) (by omega) (by rw [sw]; rfl) (by decide) ?_
        exact law_c14 hL C0 hC hK hG hi5 hI hR hS hl Tl
      · refine lv_tableIn (tgt := 651) hx hb dL_law_32 (by omega) (by omega) (by rw [sw]; rfl) (by decide) ?_
        exact law_c15 hL C0 hC hK hG hi5 hI hR hS hl Tl
      · refine lv_tableIn (tgt := 684) hx hb dL_law_32 (by omega) (by omega) (by rw [sw]; rfl) (by decide) ?_
        exact law_c16 hL C0 hC hK hG hi5 hI hR hS hl Tl
      · refine lv_tableIn (tgt := 697) hx hb dL_law_32 (by omega) (by omega) (by rw [sw]; rfl) (by decide) ?_
        exact law_c17 hL C0 hC hK hG hi5 hI hR hS hl Tl
      · refine lv_tableIn (tgt := 710) hx hb dL_law_32 (by omega) (by omega) (by rw [sw]; rfl) (by decide) ?_
        exact law_c18 hL C0 hC hK hG hi5 hI hR hS hl Tl
      · refine lv_tableIn (tgt := 743) hx hb dL_law_32 (by omega) (by omega) (by rw [sw]; rfl) (by decide) ?_
        exact law_c19 hL C0 hC hK hG hi5 hI hR hS hl Tl
      · refine lv_tableIn (tgt := 766) hx hb dL_law_32 (by omega) (by omega) (by rw [sw]; rfl) (by decide) ?_
        exact law_c20 hL C0 hC hK hG hi5 hI hR hS hl Tl
      · refine lv_tableIn (tgt := 799) hx hb dL_law_32 (by omega) (by omega) (by rw [sw]; rfl) (by decide) ?_
        exact law_c21 hL C0 hC hK hG hi5 hI hR hS hl Tl
      · refine lv_tableIn (tgt := 822) hx hb dL_law_32 (by omega) (by omega) (by rw [sw]; rfl) (by decide) ?_
        exact law_c22 hL C0 hC hK hG hi5 hI hR hS hl Tl
      · refine lv_tableIn (tgt := 865) hx hb dL_law_32 (by omega) (by omega) (by rw [sw]; rfl) (by decide) ?_
        exact law_c23 hL C0 hC hK hG hi5 hI hR hS hl Tl
      · refine lv_tableIn (tgt := 898) hx hb dL_law_32 (by omega) (by omega) (by rw [sw]; rfl) (by decide) ?_
        exact law_c24 hL C0 hC hK hG hi5 hI hR hS hl Tl
      · refine lv_tableIn (tgt := 931) hx hb dL_law_32 (by omega) (by omega) (by rw [sw]; rfl) (by decide) ?_
        exact law_c25 hL C0 hC hK hG hi5 hI hR hS hl Tl
      · refine lv_tableIn (tgt := 954) hx hb dL_law_32 (by omega) (by omega) (by rw [sw]; rfl) (by decide) ?_
        exact law_c26 hL C0 hC hK hG hi5 hI hR hS hl Tl
      · refine lv_tableIn (tgt := 967) hx hb dL_law_32 (by omega) (by omega) (by rw [sw]; rfl) (by decide) ?_
        exact law_c27 hL C0 hC hK hG hi5 hI hR hS hl Tl
      · refine lv_tableOut (tgt := 1020) hx hb dL_law_32 (by omega) (by decide) ?_
        exact Tl σ τ hI _ _ _ hR hS hl
