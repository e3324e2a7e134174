abbrev po_J9_max_7cf53 (σ : SI) (τ : SL) (xa : Int32) (ya : Int32) : Int32 → SI × SL → Prop := fun v u => u = (σ, τ) ∧ (((v.toInt = max xa.toInt ya.toInt)))
set_option maxRecDepth 100000 in
set_option maxHeartbeats 4000000 in
theorem c_J9_max_7cf53 (l : Launch) {G : Gx} {A : Nat → Prop} (hG : GOk G A) (σ : SI) (τ : SL) (xa : Int32) (ya : Int32) : MI l G A 0 yJ9_max_7cf53 cJ9_max_7cf53 2 (some .int) [.int xa, .int ya] (σ, τ) (po_J9_max_7cf53 σ τ xa ya) := by
  refine met_of (own := RJ9) (plainJ9 rfl (by decide)) rfl [(0, .int xa), (1, .int ya)] rfl (Nat.le_of_ble_eq_true rfl) ?_
  intro p e s m args below meth c ls hC hK hR hl
  have hS : va_S A s.heap s.heap [] := va_S.rf
  refine lv_iload_n hC.x hC.b dJ9_max_7cf53_0 rfl (lv_at hl 0 rfl) ?_
  refine lv_iload_n hC.x hC.b dJ9_max_7cf53_1 rfl (lv_at hl 1 rfl) ?_
  refine bi_lt (tgt := 9) (a := xa.toInt) (b := ya.toInt) hC.x hC.b rfl rfl dJ9_max_7cf53_2 (by decide) (fun c_1 => ?_) (fun c_1 => ?_)
  · skip
    refine lv_iload_n hC.x hC.b dJ9_max_7cf53_9 rfl (lv_at hl 1 rfl) ?_
    exact reti hC hK hR hS ⟨rfl, (by first | omega | assumption)⟩ dJ9_max_7cf53_10
  · skip
    refine lv_iload_n hC.x hC.b dJ9_max_7cf53_5 rfl (lv_at hl 0 rfl) ?_
    refine lv_goto (tgt := 10) hC.x hC.b dJ9_max_7cf53_6 (by decide) ?_
    exact reti hC hK hR hS ⟨rfl, (by first | omega | assumption)⟩ dJ9_max_7cf53_10

abbrev po_J9_min_7cf53 (σ : SI) (τ : SL) (xa : Int32) (ya : Int32) : Int32 → SI × SL → Prop := fun v u => u = (σ, τ) ∧ (((v.toInt = min xa.toInt ya.toInt)))
set_option maxRecDepth 100000 in
set_option maxHeartbeats 4000000 in
theorem c_J9_min_7cf53 (l : Launch) {G : Gx} {A : Nat → Prop} (hG : GOk G A) (σ : SI) (τ : SL) (xa : Int32) (ya : Int32) : MI l G A 0 yJ9_min_7cf53 cJ9_min_7cf53 2 (some .int) [.int xa, .int ya] (σ, τ) (po_J9_min_7cf53 σ τ xa ya) := by
  refine met_of (own := RJ9) (plainJ9 rfl (by decide)) rfl [(0, .int xa), (1, .int ya)] rfl (Nat.le_of_ble_eq_true rfl) ?_
  intro p e s m args below meth c ls hC hK hR hl
  have hS : va_S A s.heap s.heap [] := va_S.rf
  refine lv_iload_n hC.x hC.b dJ9_min_7cf53_0 rfl (lv_at hl 0 rfl) ?_
  refine lv_iload_n hC.x hC.b dJ9_min_7cf53_1 rfl (lv_at hl 1 rfl) ?_
  refine bi_gt (tgt := 9) (a := xa.toInt) (b := ya.toInt) hC.x hC.b rfl rfl dJ9_min_7cf53_2 (by decide) (fun c_1 => ?_) (fun c_1 => ?_)
  · skip
    refine lv_iload_n hC.x hC.b dJ9_min_7cf53_9 rfl (lv_at hl 1 rfl) ?_
    exact reti hC hK hR hS ⟨rfl, (by first | omega | assumption)⟩ dJ9_min_7cf53_10
  · skip
    refine lv_iload_n hC.x hC.b dJ9_min_7cf53_5 rfl (lv_at hl 0 rfl) ?_
    refine lv_goto (tgt := 10) hC.x hC.b dJ9_min_7cf53_6 (by decide) ?_
    exact reti hC hK hR hS ⟨rfl, (by first | omega | assumption)⟩ dJ9_min_7cf53_10

abbrev po_J9_abs_0f7a4 (σ : SI) (τ : SL) (xa : Int32) : Int32 → SI × SL → Prop := fun v u => u = (σ, τ) ∧ (((v = if 0 ≤ xa.toInt then xa else -xa)))
set_option maxRecDepth 100000 in
set_option maxHeartbeats 4000000 in
theorem c_J9_abs_0f7a4 (l : Launch) {G : Gx} {A : Nat → Prop} (hG : GOk G A) (σ : SI) (τ : SL) (xa : Int32) : MI l G A 0 yJ9_abs_0f7a4 cJ9_abs_0f7a4 1 (some .int) [.int xa] (σ, τ) (po_J9_abs_0f7a4 σ τ xa) := by
  refine met_of (own := RJ9) (plainJ9 rfl (by decide)) rfl [(0, .int xa)] rfl (Nat.le_of_ble_eq_true rfl) ?_
  intro p e s m args below meth c ls hC hK hR hl
  have hS : va_S A s.heap s.heap [] := va_S.rf
  refine lv_iload_n hC.x hC.b dJ9_abs_0f7a4_0 rfl (lv_at hl 0 rfl) ?_
  refine bz_ge (tgt := 9) (a := xa.toInt) (b := 0) hC.x hC.b rfl rfl dJ9_abs_0f7a4_1 (by decide) (fun c_1 => ?_) (fun c_1 => ?_)
  · skip
    refine lv_iload_n hC.x hC.b dJ9_abs_0f7a4_9 rfl (lv_at hl 0 rfl) ?_
    exact reti hC hK hR hS ⟨rfl, (by first | (rw [if_pos (by omega)]) | (rw [if_neg (by omega)]))⟩ dJ9_abs_0f7a4_10
  · skip
    refine lv_iload_n hC.x hC.b dJ9_abs_0f7a4_4 rfl (lv_at hl 0 rfl) ?_
    refine lv_ineg hC.x hC.b dJ9_abs_0f7a4_5 ?_
    refine lv_goto (tgt := 10) hC.x hC.b dJ9_abs_0f7a4_6 (by decide) ?_
    exact reti hC hK hR hS ⟨rfl, (by first | (rw [if_pos (by omega)]) | (rw [if_neg (by omega)]))⟩ dJ9_abs_0f7a4_10

abbrev po_J9_max_f86c9 (σ : SI) (τ : SL) (xa : Int64) (ya : Int64) : Int64 → SI × SL → Prop := fun v u => u = (σ, τ) ∧ (((v.toInt = max xa.toInt ya.toInt)))
set_option maxRecDepth 100000 in
set_option maxHeartbeats 4000000 in
theorem c_J9_max_f86c9 (l : Launch) {G : Gx} {A : Nat → Prop} (hG : GOk G A) (σ : SI) (τ : SL) (xa : Int64) (ya : Int64) : ML l G A 0 yJ9_max_f86c9 cJ9_max_f86c9 4 (some .long) [.long xa, .long ya] (σ, τ) (po_J9_max_f86c9 σ τ xa ya) := by
  refine met_of (own := RJ9) (plainJ9 rfl (by decide)) rfl [(0, .long xa), (2, .long ya)] rfl (Nat.le_of_ble_eq_true rfl) ?_
  intro p e s m args below meth c ls hC hK hR hl
  have hS : va_S A s.heap s.heap [] := va_S.rf
  refine lv_lload_n hC.x hC.b dJ9_max_f86c9_0 rfl (lv_at hl 0 rfl) ?_
  refine lv_lload_n hC.x hC.b dJ9_max_f86c9_1 rfl (lv_at hl 1 rfl) ?_
  refine bl_lt (tgt := 10) (a := xa.toInt) (b := ya.toInt) hC.x hC.b rfl rfl dJ9_max_f86c9_2 dJ9_max_f86c9_3 (by decide) (fun c_1 => ?_) (fun c_1 => ?_)
  · skip
    refine lv_lload_n hC.x hC.b dJ9_max_f86c9_10 rfl (lv_at hl 1 rfl) ?_
    exact retl hC hK hR hS ⟨rfl, (by first | omega | assumption)⟩ dJ9_max_f86c9_11
  · skip
    refine lv_lload_n hC.x hC.b dJ9_max_f86c9_6 rfl (lv_at hl 0 rfl) ?_
    refine lv_goto (tgt := 11) hC.x hC.b dJ9_max_f86c9_7 (by decide) ?_
    exact retl hC hK hR hS ⟨rfl, (by first | omega | assumption)⟩ dJ9_max_f86c9_11

abbrev po_J9_min_f86c9 (σ : SI) (τ : SL) (xa : Int64) (ya : Int64) : Int64 → SI × SL → Prop := fun v u => u = (σ, τ) ∧ (((v.toInt = min xa.toInt ya.toInt)))
set_option maxRecDepth 100000 in
set_option maxHeartbeats 4000000 in
theorem c_J9_min_f86c9 (l : Launch) {G : Gx} {A : Nat → Prop} (hG : GOk G A) (σ : SI) (τ : SL) (xa : Int64) (ya : Int64) : ML l G A 0 yJ9_min_f86c9 cJ9_min_f86c9 4 (some .long) [.long xa, .long ya] (σ, τ) (po_J9_min_f86c9 σ τ xa ya) := by
  refine met_of (own := RJ9) (plainJ9 rfl (by decide)) rfl [(0, .long xa), (2, .long ya)] rfl (Nat.le_of_ble_eq_true rfl) ?_
  intro p e s m args below meth c ls hC hK hR hl
  have hS : va_S A s.heap s.heap [] := va_S.rf
  refine lv_lload_n hC.x hC.b dJ9_min_f86c9_0 rfl (lv_at hl 0 rfl) ?_
  refine lv_lload_n hC.x hC.b dJ9_min_f86c9_1 rfl (lv_at hl 1 rfl) ?_
  refine bl_gt (tgt := 10) (a := xa.toInt) (b := ya.toInt) hC.x hC.b rfl rfl dJ9_min_f86c9_2 dJ9_min_f86c9_3 (by decide) (fun c_1 => ?_) (fun c_1 => ?_)
  · skip
    refine lv_lload_n hC.x hC.b dJ9_min_f86c9_10 rfl (lv_at hl 1 rfl) ?_
    exact retl hC hK hR hS ⟨rfl, (by first | omega | assumption)⟩ dJ9_min_f86c9_11
  · skip
    refine lv_lload_n hC.x hC.b dJ9_min_f86c9_6 rfl (lv_at hl 0 rfl) ?_
    refine lv_goto (tgt := 11) hC.x hC.b dJ9_min_f86c9_7 (by decide) ?_
    exact retl hC hK hR hS ⟨rfl, (by first | omega | assumption)⟩ dJ9_min_f86c9_11

abbrev po_J9_abs_067f4 (σ : SI) (τ : SL) (xa : Int64) : Int64 → SI × SL → Prop := fun v u => u = (σ, τ) ∧ (((v = if 0 ≤ xa.toInt then xa else -xa)))
set_option maxRecDepth 100000 in
set_option maxHeartbeats 4000000 in
theorem c_J9_abs_067f4 (l : Launch) {G : Gx} {A : Nat → Prop} (hG : GOk G A) (σ : SI) (τ : SL) (xa : Int64) : ML l G A 0 yJ9_abs_067f4 cJ9_abs_067f4 2 (some .long) [.long xa] (σ, τ) (po_J9_abs_067f4 σ τ xa) := by
  refine met_of (own := RJ9) (plainJ9 rfl (by decide)) rfl [(0, .long xa)] rfl (Nat.le_of_ble_eq_true rfl) ?_
  intro p e s m args below meth c ls hC hK hR hl
  have hS : va_S A s.heap s.heap [] := va_S.rf
  refine lv_lload_n hC.x hC.b dJ9_abs_067f4_0 rfl (lv_at hl 0 rfl) ?_
  refine lv_lconst (v := 0) hC.x hC.b dJ9_abs_067f4_1 (by decide) ?_
  refine bl_ge (tgt := 11) (a := xa.toInt) (b := 0) hC.x hC.b rfl rfl dJ9_abs_067f4_2 dJ9_abs_067f4_3 (by decide) (fun c_1 => ?_) (fun c_1 => ?_)
  · skip
    refine lv_lload_n hC.x hC.b dJ9_abs_067f4_11 rfl (lv_at hl 0 rfl) ?_
    exact retl hC hK hR hS ⟨rfl, (by first | (rw [if_pos (by omega)]) | (rw [if_neg (by omega)]))⟩ dJ9_abs_067f4_12
  · skip
    refine lv_lload_n hC.x hC.b dJ9_abs_067f4_6 rfl (lv_at hl 0 rfl) ?_
    refine lv_lneg hC.x hC.b dJ9_abs_067f4_7 ?_
    refine lv_goto (tgt := 12) hC.x hC.b dJ9_abs_067f4_8 (by decide) ?_
    exact retl hC hK hR hS ⟨rfl, (by first | (rw [if_pos (by omega)]) | (rw [if_neg (by omega)]))⟩ dJ9_abs_067f4_12

abbrev po_J9_floorDiv_f86c9 (σ : SI) (τ : SL) (xa : Int64) (ya : Int64) : Int64 → SI × SL → Prop := fun v u => u = (σ, τ) ∧ (True)
set_option maxRecDepth 100000 in
set_option maxHeartbeats 4000000 in
theorem c_J9_floorDiv_f86c9 (l : Launch) {G : Gx} {A : Nat → Prop} (hG : GOk G A) (σ : SI) (τ : SL) (xa : Int64) (ya : Int64) (hnz : ya.toInt ≠ 0) : ML l G A 0 yJ9_floorDiv_f86c9 cJ9_floorDiv_f86c9 6 (some .long) [.long xa, .long ya] (σ, τ) (po_J9_floorDiv_f86c9 σ τ xa ya) := by
  refine met_of (own := RJ9) (plainJ9 rfl (by decide)) rfl [(0, .long xa), (2, .long ya)] rfl (Nat.le_of_ble_eq_true rfl) ?_
  intro p e s m args below meth c ls hC hK hR hl
  have hS : va_S A s.heap s.heap [] := va_S.rf
  refine lv_lload_n hC.x hC.b dJ9_floorDiv_f86c9_0 rfl (lv_at hl 0 rfl) ?_
  refine lv_lload_n hC.x hC.b dJ9_floorDiv_f86c9_1 rfl (lv_at hl 1 rfl) ?_
  refine lv_ldiv hC.x hC.b dJ9_floorDiv_f86c9_2 (ne0L rfl (by omega)) ?_
  refine lv_lstore (lv' := [(4, .long (xa / ya)), (0, .long xa), (2, .long ya)]) hC.x hC.b dJ9_floorDiv_f86c9_3 hl (by decide) rfl (fun ls hl => ?_)
  refine lv_lload_n hC.x hC.b dJ9_floorDiv_f86c9_5 rfl (lv_at hl 1 rfl) ?_
  refine lv_lload_n hC.x hC.b dJ9_floorDiv_f86c9_6 rfl (lv_at hl 2 rfl) ?_
  refine lv_lxor hC.x hC.b dJ9_floorDiv_f86c9_7 ?_
  refine lv_lconst (v := 0) hC.x hC.b dJ9_floorDiv_f86c9_8 (by decide) ?_
  refine bl_ge (tgt := 27) (a := (xa ^^^ ya).toInt) (b := 0) hC.x hC.b rfl rfl dJ9_floorDiv_f86c9_9 dJ9_floorDiv_f86c9_10 (by decide) (fun c_1 => ?_) (fun c_1 => ?_)
  · skip
    refine lv_lload hC.x hC.b dJ9_floorDiv_f86c9_27 (lv_at hl 0 rfl) ?_
    exact retl hC hK hR hS ⟨rfl, (trivial)⟩ dJ9_floorDiv_f86c9_29
  · skip
    refine lv_lload hC.x hC.b dJ9_floorDiv_f86c9_13 (lv_at hl 0 rfl) ?_
    refine lv_lload_n hC.x hC.b dJ9_floorDiv_f86c9_15 rfl (lv_at hl 2 rfl) ?_
    refine lv_lmul hC.x hC.b dJ9_floorDiv_f86c9_16 ?_
    refine lv_lload_n hC.x hC.b dJ9_floorDiv_f86c9_17 rfl (lv_at hl 1 rfl) ?_
    refine bl_eq (tgt := 27) (a := ((xa / ya) * ya).toInt) (b := xa.toInt) hC.x hC.b rfl rfl dJ9_floorDiv_f86c9_18 dJ9_floorDiv_f86c9_19 (by decide) (fun c_2 => ?_) (fun c_2 => ?_)
    · skip
      refine lv_lload hC.x hC.b dJ9_floorDiv_f86c9_27 (lv_at hl 0 rfl) ?_
      exact retl hC hK hR hS ⟨rfl, (trivial)⟩ dJ9_floorDiv_f86c9_29
    · skip
      refine lv_lload hC.x hC.b dJ9_floorDiv_f86c9_22 (lv_at hl 0 rfl) ?_
      refine lv_lconst (v := 1) hC.x hC.b dJ9_floorDiv_f86c9_24 (by decide) ?_
      refine lv_lsub hC.x hC.b dJ9_floorDiv_f86c9_25 ?_
      exact retl hC hK hR hS ⟨rfl, (trivial)⟩ dJ9_floorDiv_f86c9_26

abbrev po_J9_floorMod_f86c9 (σ : SI) (τ : SL) (xa : Int64) (ya : Int64) : Int64 → SI × SL → Prop := fun v u => u = (σ, τ) ∧ (True)
set_option maxRecDepth 100000 in
set_option maxHeartbeats 4000000 in
theorem c_J9_floorMod_f86c9 (l : Launch) {G : Gx} {A : Nat → Prop} (hG : GOk G A) (σ : SI) (τ : SL) (xa : Int64) (ya : Int64) (hnz : ya.toInt ≠ 0) : ML l G A 0 yJ9_floorMod_f86c9 cJ9_floorMod_f86c9 6 (some .long) [.long xa, .long ya] (σ, τ) (po_J9_floorMod_f86c9 σ τ xa ya) := by
  refine met_of (own := RJ9) (plainJ9 rfl (by decide)) rfl [(0, .long xa), (2, .long ya)] rfl (Nat.le_of_ble_eq_true rfl) ?_
  intro p e s m args below meth c ls hC hK hR hl
  have hS : va_S A s.heap s.heap [] := va_S.rf
  refine lv_lload_n hC.x hC.b dJ9_floorMod_f86c9_0 rfl (lv_at hl 0 rfl) ?_
  refine lv_lload_n hC.x hC.b dJ9_floorMod_f86c9_1 rfl (lv_at hl 1 rfl) ?_
  refine lv_lrem hC.x hC.b dJ9_floorMod_f86c9_2 (ne0L rfl (by omega)) ?_
  refine lv_lstore (lv' := [(4, .long (xa - xa / ya * ya)), (0, .long xa), (2, .long ya)]) hC.x hC.b dJ9_floorMod_f86c9_3 hl (by decide) rfl (fun ls hl => ?_)
  refine lv_lload_n hC.x hC.b dJ9_floorMod_f86c9_5 rfl (lv_at hl 1 rfl) ?_
  refine lv_lload_n hC.x hC.b dJ9_floorMod_f86c9_6 rfl (lv_at hl 2 rfl) ?_
  refine lv_lxor hC.x hC.b dJ9_floorMod_f86c9_7 ?_
  refine lv_lconst (v := 0) hC.x hC.b dJ9_floorMod_f86c9_8 (by decide) ?_
  refine bl_ge (tgt := 25) (a := (xa ^^^ ya).toInt) (b := 0) hC.x hC.b rfl rfl dJ9_floorMod_f86c9_9 dJ9_floorMod_f86c9_10 (by decide) (fun c_1 => ?_) (fun c_1 => ?_)
  · skip
    refine lv_lload hC.x hC.b dJ9_floorMod_f86c9_25 (lv_at hl 0 rfl) ?_
    exact retl hC hK hR hS ⟨rfl, (trivial)⟩ dJ9_floorMod_f86c9_27
  · skip
    refine lv_lload hC.x hC.b dJ9_floorMod_f86c9_13 (lv_at hl 0 rfl) ?_
    refine lv_lconst (v := 0) hC.x hC.b dJ9_floorMod_f86c9_15 (by decide) ?_
    refine bl_eq (tgt := 25) (a := (xa - xa / ya * ya).toInt) (b := 0) hC.x hC.b rfl rfl dJ9_floorMod_f86c9_16 dJ9_floorMod_f86c9_17 (by decide) (fun c_2 => ?_) (fun c_2 => ?_)
    · skip
      refine lv_lload hC.x hC.b dJ9_floorMod_f86c9_25 (lv_at hl 0 rfl) ?_
      exact retl hC hK hR hS ⟨rfl, (trivial)⟩ dJ9_floorMod_f86c9_27
    · skip
      refine lv_lload hC.x hC.b dJ9_floorMod_f86c9_20 (lv_at hl 0 rfl) ?_
      refine lv_lload_n hC.x hC.b dJ9_floorMod_f86c9_22 rfl (lv_at hl 2 rfl) ?_
      refine lv_ladd hC.x hC.b dJ9_floorMod_f86c9_23 ?_
      exact retl hC hK hR hS ⟨rfl, (trivial)⟩ dJ9_floorMod_f86c9_24

abbrev po_J7_fill_53178 (σ : SI) (τ : SL) (xa : Int32) : SI × SL → Prop := fun u => ((u.2 = τ) ∧ (Fr (fun k => 12 ≤ k ∧ k ≤ 17) σ u.1))
set_option maxRecDepth 100000 in
set_option maxHeartbeats 4000000 in
theorem c_J7_fill_53178 (l : Launch) {G : Gx} {A : Nat → Prop} (hG : GOk G A) (σ : SI) (τ : SL) (xa : Int32) : MV l G A 0 yJ7_fill_53178 cJ7_fill_53178 4 none [.ref (G.2.1 14), .int xa] (σ, τ) (po_J7_fill_53178 σ τ xa) := by
  refine met_of (own := RJ7) (plainJ7 rfl) rfl [(0, .ref (G.2.1 14)), (1, .int xa)] rfl (Nat.le_of_ble_eq_true rfl) ?_
  intro p e s m args below meth c ls hC hK hR hl
  have hS : va_S A s.heap s.heap [] := va_S.rf
  refine lv_iconst (v := 0) hC.x hC.b dJ7_fill_53178_0 (by decide) ?_
  refine lv_istore_n (lv' := [(2, .int (0 : Int32)), (0, .ref (G.2.1 14)), (1, .int xa)]) hC.x hC.b dJ7_fill_53178_1 rfl hl (by decide) rfl (fun ls hl => ?_)
  refine lv_aload_n hC.x hC.b dJ7_fill_53178_2 rfl (lv_at hl 1 rfl) ?_
  refine ralen (t := 0) hC hK hR (by decide) (ct_lengths G _ _) (v := 24) rfl dJ7_fill_53178_3 ?_
  refine lv_istore_n (lv' := [(3, .int (24 : Int32)), (2, .int (0 : Int32)), (0, .ref (G.2.1 14)), (1, .int xa)]) hC.x hC.b dJ7_fill_53178_4 rfl hl (by decide) rfl (fun ls hl => ?_)
  have L_5 : ∀ (F : Nat) (n : Nat) (s1 : SI), (24 - n) < F → (n ≤ 24) → (Fr (fun k => 12 ≤ k ∧ k ≤ 17) σ s1) → ∀ (H : Heap) (locs : List Loc) (ls : Array Slot), RepH G s1 τ H → va_S A s.heap H locs → lv_has ls 4 [(0, .ref (G.2.1 14)), (1, .int xa), (2, .int (nI n)), (3, .int (24 : Int32))] → W p l e (rmD 0) s m args below meth c H locs 0 0 (MQ below (va_Qv (po_J7_fill_53178 σ τ xa) (BU G) A) args s 0 0 A) (F0 m 5 ls []) := by
    intro F
    induction F with
    | zero => intro n s1 hm; exact absurd hm (Nat.not_lt_zero _)
    | succ F ih_5 =>
      intro n s1 hm_5 hi0_5 hi1_5 H locs ls hR hS hl
      refine lv_iload_n hC.x hC.b dJ7_fill_53178_5 rfl (lv_at hl 2 rfl) ?_
      refine lv_iload_n hC.x hC.b dJ7_fill_53178_6 rfl (lv_at hl 3 rfl) ?_
      refine bi_ge (tgt := 20) (a := (n : Int)) (b := 24) hC.x hC.b (nI_T n (by omega)) rfl dJ7_fill_53178_7 (by decide) (fun c_1 => ?_) (fun c_1 => ?_)
      · skip
        exact retv hC hK hR hS (⟨by rfl, by exact hi1_5⟩) dJ7_fill_53178_20
      · skip
        refine lv_aload_n hC.x hC.b dJ7_fill_53178_10 rfl (lv_at hl 0 rfl) ?_
        refine lv_iload_n hC.x hC.b dJ7_fill_53178_11 rfl (lv_at hl 2 rfl) ?_
        refine lv_iload_n hC.x hC.b dJ7_fill_53178_12 rfl (lv_at hl 1 rfl) ?_
        refine ast hC hK hG hR hS (fun _ => ct_lengths G _ _) (nI_T n (by omega)) (by omega) (by omega) (Int.toNat_natCast _) dJ7_fill_53178_13 (fun s_2 es_3 H locs hR hS => ?_)
        refine lv_iinc (v := nI (n + 1)) (lv' := [(2, .int (nI (n + 1))), (0, .ref (G.2.1 14)), (1, .int xa), (3, .int (24 : Int32))]) hC.x hC.b dJ7_fill_53178_14 hl (k := 2) rfl (nI_succ _).symm (by decide) rfl (fun ls hl => ?_)
        refine lv_goto (tgt := 5) hC.x hC.b dJ7_fill_53178_17 (by decide) ?_
        exact ih_5 (n + 1) s_2 (by omega) (by first | omega | assumption) (by rw [es_3]; exact Fr.up (hi1_5) (by first | omega | (dsimp only; omega))) _ _ _ hR hS (lv_sub hl [1, 2, 0, 3] rfl)
  exact L_5 _ 0 σ (Nat.lt_succ_self _) (by first | omega | assumption) Fr.rf _ _ _ hR hS (lv_sub hl [2, 3, 1, 0] rfl)
