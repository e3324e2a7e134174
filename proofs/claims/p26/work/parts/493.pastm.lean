/-! ===== the reference's steps through the past ===== -/
abbrev MFr (σ s : SI) : Prop := MRel (fun _ => False) (fun j => j = 44) σ s
section PASTM
variable {σ s s1 : SI} {τ t1 : SL} {q n : Nat} {lo t : Int} {f : Int → Int32} {ga : Int32}
theorem isXp_f (r : MFr σ s) : isXp s q t ↔ isXp σ q t := by
  unfold isXp
  rw [r.1 43 (by decide) (fun h => h), r.1 52 (by decide) (fun h => h), r.2 29 (by decide)]
theorem isMp_f (r : MFr σ s) : isMp s q t ↔ isMp σ q t := by
  unfold isMp
  rw [isXp_f r, r.1 53 (by decide) (fun h => h)]
theorem pM_f (r : MFr σ s) : pM s q = pM σ q := pM_ex (r.1 43 (by decide) (fun h => h)) (r.2 29 (by decide)) (r.1 52 (by decide) (fun h => h)) (r.1 53 (by decide) (fun h => h)) (r.1 56 (by decide) (fun h => h))
theorem gn_s (hb : XB σ) (ht : t = lo + (n : Int)) (hg : isXp σ q t ∧ isXp σ q (t - 1) ∧ lo ≤ t - 1) : fG (pX σ q) lo (lo + (n : Int)) = some ((σ 54 (24 * t.toNat + q)).toInt64 - (σ 54 (24 * (t - 1).toNat + q)).toInt64) := by
  unfold fG
  rw [← ht, if_neg (fun h => by
    rcases h with h | h | h
    · exact pX_y hb hg.1 h
    · have := hg.2.2; omega
    · exact pX_y hb hg.2.1 h), pX_v hg.1, pX_v hg.2.1]
theorem gn_n (ht : t = lo + (n : Int)) (hg : ¬ (isXp σ q t ∧ isXp σ q (t - 1) ∧ lo ≤ t - 1)) : fG (pX σ q) lo (lo + (n : Int)) = none := by
  unfold fG
  rw [← ht]
  refine if_pos ?_
  by_cases a : isXp σ q t
  · by_cases b : isXp σ q (t - 1)
    · right
      left
      rcases Int.lt_or_le lo t with g | g
      · exact absurd ⟨a, b, by omega⟩ hg
      · exact g
    · exact Or.inr (Or.inr (pX_n b))
  · exact Or.inl (pX_n a)
theorem xn_s (hb : XB σ) (ht : t = lo + (n : Int)) (hg : isXp σ q t) : fX (pX σ q) (lo + (n : Int)) = some (σ 54 (24 * t.toNat + q)).toInt64 := by
  unfold fX
  rw [← ht, if_neg (pX_y hb hg), pX_v hg]
theorem xn_n (ht : t = lo + (n : Int)) (hg : ¬ isXp σ q t) : fX (pX σ q) (lo + (n : Int)) = none := by
  unfold fX
  rw [← ht, if_pos (pX_n hg)]
theorem bg_s {x2 : Int32} {h : Int} (hb : XB σ) (e : x2 = (LN (fG (pX σ q) lo) lo h n).1) (ht : t = lo + (n : Int)) (hg : isXp σ q t ∧ isXp σ q (t - 1) ∧ lo ≤ t - 1) : x2 + 1 = (LN (fG (pX σ q) lo) lo h (n + 1)).1 := by
  rw [LN_s (gn_s hb ht hg), e]
theorem bg_n {x2 : Int32} {h : Int} (e : x2 = (LN (fG (pX σ q) lo) lo h n).1) (ht : t = lo + (n : Int)) (hg : ¬ (isXp σ q t ∧ isXp σ q (t - 1) ∧ lo ≤ t - 1)) : x2 + 0 = (LN (fG (pX σ q) lo) lo h (n + 1)).1 := by
  rw [LN_n (gn_n ht hg), e, Int32.add_zero]
theorem bgm_y {x2 : Int32} {sp h kd w : Int} (hb : XB σ) (e : x2 = (LG (pX σ q) sp h).1) (h1 : kd = 2) (h2 : 1 < x2.toInt) (hx : isXp σ q w) (hw : w = h - 1) : bGp (pX σ q) sp h kd := by
  subst hw
  rw [e] at h2
  exact ⟨h1, h2, pX_y hb hx⟩
theorem bgm_n {x2 : Int32} {sp h kd : Int} (e : x2 = (LG (pX σ q) sp h).1) (hn : kd ≠ 2 ∨ x2.toInt ≤ 1 ∨ ∃ w, ¬ isXp σ q w ∧ w = h - 1) : ¬ bGp (pX σ q) sp h kd := by
  rintro ⟨b1, b2, b3⟩
  rcases hn with hn | hn | ⟨w, hn, hw⟩
  · exact hn b1
  · rw [e] at hn
    have b2 : 2 ≤ (LG (pX σ q) sp h).1.toInt := b2
    omega
  · subst hw
    exact b3 (pX_n hn)
def LNm (s : SI) (x3 x5 x7 x9 : Int64) (L : L5) : Prop := s 35 44 = L.1 ∧ x3 = L.2.1 ∧ x5 = L.2.2.1 ∧ x7 = L.2.2.2.1 ∧ x9 = L.2.2.2.2
theorem LNm.z {g : Int → Option Int64} {h : Int} (e : s 35 44 = 0) : LNm s 0 0 0 0 (LN g lo h 0) := ⟨e, rfl, rfl, rfl, rfl⟩
theorem fF_0 : fF 0 f lo = fX f := by
  funext t
  unfold fF
  rw [if_pos (by decide)]
theorem fF_1 : fF 1 f lo = fG f lo := by
  funext t
  unfold fF
  rw [if_neg (by decide)]
theorem ln_ng {x3 x5 x7 x9 : Int64} {h : Int} (hi : LNm s1 x3 x5 x7 x9 (LN (fF ga (pX σ q) lo) lo h n)) (r : MFr σ s1) (hlo : lo = (σ 35 29).toInt - (σ 37 q).toInt) (c : ga.toInt ≠ 0) (ht : t = lo + (n : Int)) (hg : ¬ (isXp s1 q t ∧ isXp s1 q (t - 1) ∧ (s1 35 29).toInt - (s1 37 q).toInt ≤ t - 1)) : LNm s1 x3 x5 x7 x9 (LN (fF ga (pX σ q) lo) lo h (n + 1)) := by
  rw [isXp_f r, isXp_f r, r.2 29 (by decide), r.1 37 (by decide) (fun h => h), ← hlo] at hg
  rw [LN_n (by unfold fF; rw [if_neg c]; exact gn_n ht hg)]
  exact hi
theorem ln_nx {x3 x5 x7 x9 : Int64} {h : Int} (hi : LNm s1 x3 x5 x7 x9 (LN (fF ga (pX σ q) lo) lo h n)) (r : MFr σ s1) (c : ga.toInt = 0) (ht : t = lo + (n : Int)) (hg : ¬ isXp s1 q t) : LNm s1 x3 x5 x7 x9 (LN (fF ga (pX σ q) lo) lo h (n + 1)) := by
  rw [isXp_f r] at hg
  rw [LN_n (by unfold fF; rw [if_pos c]; exact xn_n ht hg)]
  exact hi
theorem ln_ad {x3 x5 x7 x9 x12 x14 : Int64} {u : Int32} (hi : LNm s1 x3 x5 x7 x9 (LN (fF ga (pX σ q) lo) lo (σ 35 29).toInt n)) (r : MFr σ s1) (h44 : s 35 44 = s1 35 44 + 1) (ht : u.toInt = lo + (n : Int)) (h1 : (σ 35 29).toInt ≤ lo + 12) (h2 : lo + (n : Int) < (σ 35 29).toInt) (e12 : x12 = (u - s1 35 29).toInt64) (hX : fF ga (pX σ q) lo (lo + (n : Int)) = some x14) : LNm s (x3 + x12) (x5 + x14) (x7 + x12 * x12) (x9 + x12 * x14) (LN (fF ga (pX σ q) lo) lo (σ 35 29).toInt (n + 1)) := by
  obtain ⟨a0, a1, a2, a3, a4⟩ := hi
  have e29 : s1 35 29 = σ 35 29 := r.2 29 (by decide)
  rw [e29, ta_eq ht h1 h2] at e12
  rw [LN_s hX, e12]
  exact ⟨by rw [h44, a0], by rw [a1], by rw [a2], by rw [a3], by rw [a4]⟩
theorem fF_g {x14 : Int64} {u : Int32} (hb : XB σ) (r : MFr σ s1) (hlo : lo = (σ 35 29).toInt - (σ 37 q).toInt) (c : ga.toInt ≠ 0) (ht : u.toInt = lo + (n : Int)) (hg : isXp s1 q u.toInt ∧ isXp s1 q (u.toInt - 1) ∧ (s1 35 29).toInt - (s1 37 q).toInt ≤ u.toInt - 1) (ex : x14 = (s1 54 (24 * u.toInt.toNat + q)).toInt64 - (s1 54 (24 * (u.toInt - 1).toNat + q)).toInt64) : fF ga (pX σ q) lo (lo + (n : Int)) = some x14 := by
  rw [isXp_f r, isXp_f r, r.2 29 (by decide), r.1 37 (by decide) (fun h => h), ← hlo] at hg
  rw [r.1 54 (by decide) (fun h => h)] at ex
  unfold fF
  rw [if_neg c, gn_s hb ht hg, ex]
theorem fF_x {x14 : Int64} {u : Int32} (hb : XB σ) (r : MFr σ s1) (c : ga.toInt = 0) (ht : u.toInt = lo + (n : Int)) (hg : isXp s1 q u.toInt) (ex : x14 = (s1 54 (24 * u.toInt.toNat + q)).toInt64) : fF ga (pX σ q) lo (lo + (n : Int)) = some x14 := by
  rw [isXp_f r] at hg
  rw [r.1 54 (by decide) (fun h => h)] at ex
  unfold fF
  rw [if_pos c, xn_s hb ht hg, ex]
def LNp (s : SI) (t : SL) (L : L5) : Prop := s 35 44 = L.1 ∧ (t 35 45).toInt = AB6 L ∧ (t 35 46).toInt = BE6 L ∧ (L0 L ≠ 0 → (t 35 47).toInt = VZ L)
theorem lnp_s {L : L5} {x3 x5 x7 x9 : Int64} (hi : LNm s x3 x5 x7 x9 L) (hB : LB L) (c : (s 35 44).toInt < 2) (h45 : t1 35 45 = 0) (h46 : t1 35 46 = 1) (h47 : (s 35 44).toInt = 1 → t1 35 47 = x5) : LNp s t1 L := by
  obtain ⟨a0, a1, a2, a3, a4⟩ := hi
  have e0 : (s 35 44).toInt = L0 L := by rw [a0]
  have hb := hB.1
  have z := hB.2.2.2.2.2.2.2.1 (by omega)
  refine ⟨a0, ?_, ?_, fun hn => ?_⟩
  · unfold AB6
    rw [h45, if_neg (by omega)]
    decide
  · unfold BE6
    rw [h46, if_neg (by omega)]
    decide
  · rw [h47 (by omega), a2]
    unfold VZ
    rw [if_neg (by omega)]
theorem lnp_b {L : L5} {x3 x5 x7 x9 a45 v : Int64} (hi : LNm s x3 x5 x7 x9 L) (hB : LB L) (c : 2 ≤ (s 35 44).toInt) (h45 : t1 35 45 = (s 35 44).toInt64 * x9 - x3 * x5) (h46 : t1 35 46 = (s 35 44).toInt64 * x7 - x3 * x3) (h47 : t1 35 47 = v)
    (hv : 0 < ((s 35 44).toInt64 * ((s 35 44).toInt64 * x7 - x3 * x3)).toInt → ((s 35 44).toInt64 * ((s 35 44).toInt64 * x7 - x3 * x3)).toInt < 4000000000000000000 → -4000000000000000000 < (x5 * ((s 35 44).toInt64 * x7 - x3 * x3) - a45 * x3).toInt → v.toInt = (x5 * ((s 35 44).toInt64 * x7 - x3 * x3) - a45 * x3).toInt / ((s 35 44).toInt64 * ((s 35 44).toInt64 * x7 - x3 * x3)).toInt) (ha : a45 = (s 35 44).toInt64 * x9 - x3 * x5) : LNp s t1 L := by
  obtain ⟨a0, a1, a2, a3, a4⟩ := hi
  have e0 : (s 35 44).toInt = L0 L := by rw [a0]
  rw [ha] at hv
  rw [a0, a1, a2, a4] at h45
  rw [a0, a1, a3] at h46
  rw [a0, a1, a2, a3, a4] at hv
  have eB := BEl hB
  have eA := ABl hB
  have bA := AB_bd hB
  have bB := hB.2.2.2.2.2.1
  have pB := hB.2.2.2.2.2.2.1 (by omega)
  have b0 := hB.1
  have b2 := hB.2.2.1
  have b1 := hB.2.1
  have m1 := absmul (x := L2 L) (y := BEr L) (A := 27600000000) (B := 20736) (by omega) (by omega)
  have m2 := absmul (x := ABr L) (y := L1 L) (A := 8000000000000) (B := 144) (by omega) (by omega)
  have m3 := absmul (x := L0 L) (y := BEr L) (A := 12) (B := 20736) (by omega) (by omega)
  have m4 : 1 * 1 ≤ L0 L * BEr L := Int.mul_le_mul (by omega) (by omega) (by decide) (by omega)
  have eX : (L.2.2.1 * (L.1.toInt64 * L.2.2.2.1 - L.2.1 * L.2.1) - (L.1.toInt64 * L.2.2.2.2 - L.2.1 * L.2.2.1) * L.2.1).toInt = L2 L * BEr L - ABr L * L1 L := subL (mulL rfl eB (by omega) (by omega)) (mulL eA rfl (by omega) (by omega)) (by omega) (by omega)
  have eY : (L.1.toInt64 * (L.1.toInt64 * L.2.2.2.1 - L.2.1 * L.2.1)).toInt = L0 L * BEr L := mulL (i2lI rfl) eB (by omega) (by omega)
  rw [eX, eY] at hv
  refine ⟨a0, ?_, ?_, fun hn => ?_⟩
  · unfold AB6
    rw [h45, if_pos (by omega), eA]
  · unfold BE6
    rw [h46, if_pos (by omega), eB]
  · rw [h47, hv (by omega) (by omega) (by omega)]
    exact VZ_ref hB (by omega)
theorem lnp_g {L : L5} (h : LNp s τ L) (hB : LB L) : 0 < (τ 35 46).toInt ∧ (τ 35 46).toInt < 32768 := by
  rw [h.2.2.1]
  unfold BE6
  have bB := hB.2.2.2.2.2.1
  by_cases c : 2 ≤ L0 L
  · rw [if_pos c]
    have := hB.2.2.2.2.2.2.1 c
    omega
  · rw [if_neg c]
    decide
theorem LF_m1 {sp h kd : Int} (hb : bGp f sp h kd) : LN (fF 1 f (h - sp)) (h - sp) h sp.toNat = LF f sp h kd := by
  unfold LF
  rw [if_pos hb, fF_1]
theorem LF_m0 {sp h kd : Int} (hb : ¬ bGp f sp h kd) : LN (fF 0 f (h - sp)) (h - sp) h sp.toNat = LF f sp h kd := by
  unfold LF
  rw [if_neg hb, fF_0]
theorem ftm_0 {sp h kd : Int} (hA : LNp s τ (LF f sp h kd)) (c : (s 35 44).toInt = 0) : (2000000000 : Int32) = FT f sp h kd := by
  rw [hA.1] at c
  unfold FT
  rw [if_pos c]
theorem ftm_v {sp h kd : Int} {v : Int32} {x : Int64} (hf : XR f) (hs : 2 ≤ sp ∧ sp ≤ 12) (hA : LNp s τ (LF f sp h kd)) (c : (s 35 44).toInt ≠ 0) {b : Int} (hb : b = BF6 f sp h kd) (ex : x.toInt = b + (τ 35 47).toInt) (hc : (1000000000 < x.toInt ∧ v = 1000000000) ∨ (x.toInt < -1000000000 ∧ v = -1000000000) ∨ (x.toInt ≤ 1000000000 ∧ -1000000000 ≤ x.toInt ∧ v = x.toInt32)) : v = FT f sp h kd := by
  rw [hA.1] at c
  have e := hA.2.2.2 c
  unfold FT
  rw [if_neg c]
  apply i32_ext
  rw [cl9b_T, ← hb, ← e, ← ex]
  rcases hc with ⟨h1, h2⟩ | ⟨h1, h2⟩ | ⟨h1, h2, h3⟩
  · rw [h2, show (1000000000 : Int32).toInt = 1000000000 from by decide]
    omega
  · rw [h2, show (-1000000000 : Int32).toInt = -1000000000 from by decide]
    omega
  · rw [h3, l2iI rfl (by omega) (by omega)]
    omega
theorem BF_1 {sp h kd w : Int} (hb : bGp (pX σ q) sp h kd) (hx : isXp σ q w) (hw : w = h - 1) : (σ 54 (24 * w.toNat + q)).toInt = BF6 (pX σ q) sp h kd := by
  unfold BF6
  rw [if_pos hb, ← hw, pX_v hx]
theorem BF_0 {sp h kd : Int} (hb : ¬ bGp f sp h kd) : (0 : Int) = BF6 f sp h kd := by
  unfold BF6
  rw [if_neg hb]
theorem bx_1 {sp h kd : Int} (hb : bGp (pX σ q) sp h kd) : isXp σ q (h - 1) := by
  by_cases g : isXp σ q (h - 1)
  · exact g
  · exact absurd (pX_n g) hb.2.2
theorem mgm_y {f : Int → Int32} {x2 y : Int64} (e : x2 = 1 + (MG f lo n).2.2) (ht : t = lo + (n : Int)) {z : Int32} (hz : z = f t) (hx : (f t).toInt ≠ 2000000000) (ey : y = x2 + z.toInt64 * z.toInt64) : y = 1 + (MG f lo (n + 1)).2.2 := by
  rw [MG_s (by rw [← ht]; exact hx), ey, e, hz, ht, Int64.add_assoc]
theorem mgm_n {f : Int → Int32} {x2 : Int64} (e : x2 = 1 + (MG f lo n).2.2) (ht : t = lo + (n : Int)) (hx : (f t).toInt = 2000000000) : x2 = 1 + (MG f lo (n + 1)).2.2 := by
  rw [MG_n (by rw [← ht]; exact hx), e]
def flM (x : Int32) (M : Int32 × Int64 × Int64) : Prop := (x = 0 ∧ M.1.toInt = 0) ∨ (x = 1 ∧ M.1.toInt ≠ 0)
theorem flM.y {f : Int → Int32} {x : Int32} (hf : MR6 f) (hn : (n : Int) < 12) (h : flM x (MG f lo n)) (ht : t = lo + (n : Int)) (hx : (f t).toInt ≠ 2000000000) : flM 1 (MG f lo (n + 1)) := by
  have b := (MG_bd (lo := lo) hf n (by omega)).1
  rw [MG_s (by rw [← ht]; exact hx)]
  refine Or.inr ⟨rfl, ?_⟩
  show ((MG f lo n).1 + 1).toInt ≠ 0
  rw [addI rfl (show (1 : Int32).toInt = 1 from by decide) (by omega) (by omega)]
  omega
theorem flM.sk {f : Int → Int32} {x : Int32} (h : flM x (MG f lo n)) (ht : t = lo + (n : Int)) (hx : (f t).toInt = 2000000000) : flM x (MG f lo (n + 1)) := by
  rw [MG_n (by rw [← ht]; exact hx)]
  exact h
theorem flM.k {f : Int → Int32} {x : Int32} (hf : MR6 f) (hn : (n : Int) < 12) (h : flM x (MG f lo n)) (c : x.toInt ≠ 0) (ht : t = lo + (n : Int)) : flM 1 (MG f lo (n + 1)) := by
  rcases h with ⟨a, b⟩ | ⟨a, b⟩
  · rw [a] at c
    exact absurd (by decide) c
  · by_cases g : (f t).toInt = 2000000000
    · rw [MG_n (by rw [← ht]; exact g)]
      exact Or.inr ⟨rfl, b⟩
    · exact flM.y hf hn (Or.inr ⟨a, b⟩) ht g
theorem fwm_1 {ou rc h : Int} {ft x4 : Int32} (c1 : ft.toInt ≠ 2000000000) (c2 : ou = 0) (hf : flM x4 (MGr6 f rc h)) (c : x4.toInt = 0) : (1 : Int32) = FW6 ou ft f rc h := by
  rcases hf with ⟨a, b⟩ | ⟨a, b⟩
  · unfold FW6
    rw [if_neg (by omega), if_pos b]
  · rw [a] at c
    exact absurd c (by decide)
theorem fwm_v {ou rc h : Int} {ft x4 v : Int32} {x2 x5 : Int64} (hm : MR6 f) (hr : 1 ≤ rc ∧ rc ≤ 12) (c1 : ft.toInt ≠ 2000000000) (c2 : ou = 0) (hf : flM x4 (MGr6 f rc h)) (c : x4.toInt ≠ 0) (e2 : x2 = 1 + (MGr6 f rc h).2.2) (e5 : x5 = (1000000 : Int64) / x2) (hc : (x5.toInt < 1 ∧ v = 1) ∨ (1 ≤ x5.toInt ∧ v = x5.toInt32)) : v = FW6 ou ft f rc h := by
  have b0 : (MGr6 f rc h).1.toInt ≠ 0 := by
    rcases hf with ⟨a, b⟩ | ⟨a, b⟩
    · rw [a] at c
      exact absurd (by decide) c
    · exact b
  have b := MGr_bd (h := h) hm (show 0 ≤ rc ∧ rc ≤ 12 by omega)
  have z1 : (1 : Int64).toInt = 1 := by decide
  have z2 : (1000000 : Int64).toInt = 1000000 := by decide
  have z3 : (1 : Int32).toInt = 1 := by decide
  have e3 : x2.toInt = 1 + (MGr6 f rc h).2.2.toInt := by
    rw [e2]
    exact addL z1 rfl (by omega) (by omega)
  have e6 : x5.toInt = Int.tdiv 1000000 (1 + (MGr6 f rc h).2.2.toInt) := by
    rw [e5, divT (by omega), z2, e3]
  have h9 := tdm (x := 1000000) (y := 1 + (MGr6 f rc h).2.2.toInt) (by omega)
  have t6 := h9.2.2.2.1 (by omega)
  have q0 : 0 ≤ Int.tdiv 1000000 (1 + (MGr6 f rc h).2.2.toInt) := Int.tdiv_nonneg (by omega) (by omega)
  have q1 : Int.tdiv 1000000 (1 + (MGr6 f rc h).2.2.toInt) * 1 ≤ Int.tdiv 1000000 (1 + (MGr6 f rc h).2.2.toInt) * (1 + (MGr6 f rc h).2.2.toInt) := Int.mul_le_mul_of_nonneg_left (by omega) q0
  unfold FW6
  rw [if_neg (by omega), if_neg b0]
  apply i32_ext
  rw [ofI (by omega) (by omega), ← e6]
  rcases hc with ⟨h1, h2⟩ | ⟨h1, h2⟩
  · rw [h2, z3]
    omega
  · rw [h2, l2iI rfl (by omega) (by omega)]
    omega
theorem slm_0 {sp h kd wh : Int} (hA : LNp s τ (LF f sp h kd)) (c : (s 35 44).toInt = 0) : (2000000000 : Int32) = SLP f sp h kd wh := by
  rw [hA.1] at c
  unfold SLP
  rw [if_pos c]
theorem slm_v {sp h kd wh : Int} {v : Int32} {g x : Int64} (hA : LNp s τ (LF f sp h kd)) (hB : LB (LF f sp h kd)) (c : (s 35 44).toInt ≠ 0) {a : Int64} (hg : 0 ≤ a.toInt → 0 ≤ (τ 35 46).toInt → g.toInt = (Int.gcd a.toInt (τ 35 46).toInt : Int)) (ha : a.toInt = ((τ 35 45).toInt.natAbs : Int)) (ex : (wh = 0 ∧ x = τ 35 45 / g) ∨ (wh = 1 ∧ x = τ 35 46 / g)) (hc : (1000000000 < x.toInt ∧ v = 1000000000) ∨ (x.toInt < -1000000000 ∧ v = -1000000000) ∨ (x.toInt ≤ 1000000000 ∧ -1000000000 ≤ x.toInt ∧ v = x.toInt32)) : v = SLP f sp h kd wh := by
  rw [hA.1] at c
  have hp := lnp_g hA hB
  have hg := hg (by omega) (by omega)
  rw [ha, show Int.gcd ((τ 35 45).toInt.natAbs : Int) (τ 35 46).toInt = Int.gcd (τ 35 45).toInt (τ 35 46).toInt from rfl, hA.2.1, hA.2.2.1] at hg
  have e46 := hA.2.2.1
  have gp : 0 < Int.gcd (AB6 (LF f sp h kd)) (BE6 (LF f sp h kd)) := Int.gcd_pos_of_ne_zero_right _ (by omega)
  have e : x.toInt = (if wh = 0 then AB6 (LF f sp h kd) else BE6 (LF f sp h kd)).tdiv (Int.gcd (AB6 (LF f sp h kd)) (BE6 (LF f sp h kd))) := by
    rcases ex with ⟨w0, ex⟩ | ⟨w0, ex⟩
    · rw [if_pos w0, ex, divT (by omega), hg, hA.2.1]
    · rw [if_neg (by omega), ex, divT (by omega), hg, e46]
  unfold SLP
  rw [if_neg c, ← e]
  apply i32_ext
  rw [cl9b_T]
  rcases hc with ⟨h1, h2⟩ | ⟨h1, h2⟩ | ⟨h1, h2, h3⟩
  · rw [h2, show (1000000000 : Int32).toInt = 1000000000 from by decide]
    omega
  · rw [h2, show (-1000000000 : Int32).toInt = -1000000000 from by decide]
    omega
  · rw [h3, l2iI rfl (by omega) (by omega)]
    omega
theorem lnp_a {L : L5} (h : LNp s τ L) (hB : LB L) : -8000000000000 ≤ (τ 35 45).toInt ∧ (τ 35 45).toInt ≤ 8000000000000 := by
  rw [h.2.1]
  unfold AB6
  by_cases c : 2 ≤ L0 L
  · rw [if_pos c]
    exact AB_bd hB
  · rw [if_neg c]
    omega
theorem ftm_g {sp kd : Int} {v : Int32} {x : Int64} (hxb : XB σ) (r : MFr σ s) (hs : 2 ≤ sp ∧ sp ≤ 12) (hb : bGp (pX σ q) sp (σ 35 29).toInt kd) (hA : LNp s τ (LF (pX σ q) sp (σ 35 29).toInt kd)) (c : (s 35 44).toInt ≠ 0) (ex : x = (s 54 (24 * ((s 35 29).toInt - 1).toNat + q)).toInt64 + τ 35 47) (hc : (1000000000 < x.toInt ∧ v = 1000000000) ∨ (x.toInt < -1000000000 ∧ v = -1000000000) ∨ (x.toInt ≤ 1000000000 ∧ -1000000000 ≤ x.toInt ∧ v = x.toInt32)) : v = FT (pX σ q) sp (σ 35 29).toInt kd := by
  rw [r.1 54 (by decide) (fun h => h), r.2 29 (by decide)] at ex
  have e1 := BF_1 hb (bx_1 hb) rfl
  have c2 := c
  rw [hA.1] at c2
  have e2 := hA.2.2.2 c2
  have b1 := BF_bd (sp := sp) (h := (σ 35 29).toInt) (kd := kd) (pX_R (q := q) hxb)
  have b2 := VZ_bd (LF_lb (sp := sp) (h := (σ 35 29).toInt) (kd := kd) (pX_R (q := q) hxb) (by omega))
  refine ftm_v (pX_R hxb) hs hA c rfl ?_ hc
  rw [ex]
  exact addL (i2lI e1) rfl (by omega) (by omega)
theorem ftm_x {sp h kd : Int} {v : Int32} (hf : XR f) (hs : 2 ≤ sp ∧ sp ≤ 12) (hb : ¬ bGp f sp h kd) (hA : LNp s τ (LF f sp h kd)) (c : (s 35 44).toInt ≠ 0) (hc : (1000000000 < (τ 35 47).toInt ∧ v = 1000000000) ∨ ((τ 35 47).toInt < -1000000000 ∧ v = -1000000000) ∨ ((τ 35 47).toInt ≤ 1000000000 ∧ -1000000000 ≤ (τ 35 47).toInt ∧ v = (τ 35 47).toInt32)) : v = FT f sp h kd :=
  ftm_v hf hs hA c (BF_0 hb) (by omega) hc
theorem mgm_z {f : Int → Int32} : (1 : Int64) = 1 + (MG f lo 0).2.2 := (Int64.add_zero 1).symm
theorem pmn (r : MFr σ s) (hg : ¬ isMp s q t) : (pM σ q t).toInt = 2000000000 := pM_n (fun h => hg ((isMp_f r).mpr h))
theorem pmy (hk : KM σ) (r : MFr σ s) (hg : isMp s q t) : (pM σ q t).toInt ≠ 2000000000 := pM_y hk ((isMp_f r).mp hg)
theorem pmv (r : MFr σ s) (hg : isMp s q t) : s 56 (24 * t.toNat + q) = pM σ q t := by
  rw [pM_v ((isMp_f r).mp hg), r.1 56 (by decide) (fun h => h)]
theorem flM.z {f : Int → Int32} : flM 0 (MG f lo 0) := Or.inl ⟨rfl, by show (0 : Int32).toInt = 0; decide⟩
theorem flM.n0 {f : Int → Int32} {x : Int32} (h : flM x (MG f lo n)) (c : x.toInt = 0) (ht : t = lo + (n : Int)) (hx : (f t).toInt = 2000000000) : flM 0 (MG f lo (n + 1)) := by
  have e : x = 0 := i32_ext (c.trans (by decide))
  rw [← e]
  exact flM.sk h ht hx
end PASTM
def Cl6 (σ : SI) : Prop := ∀ j, j < 24 → 0 ≤ (σ 36 j).toInt ∧ (σ 36 j).toInt ≤ 3 → (2 ≤ (σ 37 j).toInt ∧ (σ 37 j).toInt ≤ 12) ∧ (1 ≤ (σ 38 j).toInt ∧ (σ 38 j).toInt ≤ 12)
abbrev po5_X10_isX (σ : SI) (τ : SL) (hr : Int32) (hq : Nat) (pl : Int32) (q : Nat) : Int32 → SI × SL → Prop := fun v u => u = (σ, τ) ∧ (((v = (1)) ∧ (0 ≤ hr.toInt) ∧ (hr.toInt < (σ 35 29).toInt) ∧ (isXp σ q hr.toInt)) ∨ ((v = (0)) ∧ (¬ isXp σ q hr.toInt)))
set_option maxRecDepth 100000 in
set_option maxHeartbeats 4000000 in
theorem c5_X10_isX (l : Launch) {G : Gx} {A : Nat → Prop} (hG : GOk G A) (σ : SI) (τ : SL) (hr : Int32) (hq : Nat) (hp_hq : hr.toInt.toNat = hq) (pl : Int32) (q : Nat) (hp_q : pl.toInt.toNat = q) (hnw : 0 ≤ (σ 35 29).toInt ∧ (σ 35 29).toInt ≤ 200) (hin : 0 ≤ pl.toInt ∧ pl.toInt < 24) : MI l G A 1 yX10_isX cX10_isX 3 (some .boolean) [.ref (G.2.1 35), .int hr, .int pl] (σ, τ) (po5_X10_isX σ τ hr hq pl q) := by
  refine met_of (own := RX10) (by decide +kernel) rfl [(0, .ref (G.2.1 35)), (1, .int hr), (2, .int pl)] rfl (Nat.le_of_ble_eq_true rfl) ?_
  intro p e s m args below meth c ls hC hK hR hl
  have hS : va_S A s.heap s.heap [] := va_S.rf
  refine lv_iload_n hC.x hC.b dX10_isX_0 rfl (lv_at hl 1 rfl) ?_
  refine lv_aload_n hC.x hC.b dX10_isX_1 rfl (lv_at hl 0 rfl) ?_
  refine rget hC hK hR (ct_model G _ _) rfl uin_X10 7 (by decide) TF_X10_32 rfl dX10_isX_2 ?_
  refine lv_iload_n hC.x hC.b dX10_isX_5 rfl (lv_at hl 2 rfl) ?_
  refine ald hC hK hR (ct_m_since G _ _) rfl (by omega) (by omega) hp_q dX10_isX_6 ?_
  refine bi_lt (tgt := 42) (a := hr.toInt) (b := (σ 43 q).toInt) hC.x hC.b rfl rfl dX10_isX_7 (by decide) (fun c_1 => ?_) (fun c_1 => ?_)
  · skip
    refine lv_iconst (v := 0) hC.x hC.b dX10_isX_42 (by decide) ?_
    exact retz hC hK hR hS (Or.inl rfl) ⟨rfl, (by first | exact Or.inr ((⟨by first | rfl | omega, by subst hp_hq; rintro ⟨b1, b2, b3, b4⟩; omega⟩)) | exact False.elim (by omega))⟩ dX10_isX_43
  · skip
    refine lv_iload_n hC.x hC.b dX10_isX_10 rfl (lv_at hl 1 rfl) ?_
    refine lv_iconst (v := 0) hC.x hC.b dX10_isX_11 (by decide) ?_
    refine lv_aload_n hC.x hC.b dX10_isX_12 rfl (lv_at hl 0 rfl) ?_
    refine rget hC hK hR (ct_model G _ _) rfl uin_X10 29 (by decide) TF_X10_137 rfl dX10_isX_13 ?_
    refine lv_iconst (v := 1) hC.x hC.b dX10_isX_16 (by decide) ?_
    refine lv_isub hC.x hC.b dX10_isX_17 ?_
    have pr_2 : ((σ 35 29) - (1 : Int32)).toInt = ((σ 35 29).toInt - 1) := subI rfl rfl (by omega) (by omega)
    have av_3 : (0 : Int32).toInt = 0 := by decide
    have av_4 : ((σ 35 29) - (1 : Int32)).toInt = ((σ 35 29).toInt - 1) := pr_2
    refine goip (runS (As := [.int hr, .int (0 : Int32), .int ((σ 35 29) - (1 : Int32))]) (rest := []) hC hK hR hl.1 (c_X10_isIn l hG σ τ hr (0 : Int32) ((σ 35 29) - (1 : Int32)) ) (call_b hC.ts TC_X10_isIn TN_X10 TM_X10_129 hd_X10_isIn ⟨Nat.le_of_ble_eq_true rfl, Nat.le_of_ble_eq_true rfl⟩) TT_X10_isIn rfl rfl (Nat.le_of_ble_eq_true rfl) dX10_isX_18 ⟨Nat.le_of_ble_eq_true rfl, Nat.le_of_ble_eq_true rfl⟩) hS (fun v_5 H locs w_6 hR hS => ?_)
    rcases w_6 with ⟨rfl, f_7, f_8⟩ | ⟨rfl, f_9⟩
    · skip
      refine bz_eq (tgt := 42) (a := 1) (b := 0) hC.x hC.b rfl rfl dX10_isX_21 (by decide) (fun c_10 => absurd c_10 (by decide)) (fun _ => ?_)
      refine lv_aload_n hC.x hC.b dX10_isX_24 rfl (lv_at hl 0 rfl) ?_
      refine rget hC hK hR (ct_model G _ _) rfl uin_X10 16 (by decide) TF_X10_59 rfl dX10_isX_25 ?_
      refine lv_aload_n hC.x hC.b dX10_isX_28 rfl (lv_at hl 0 rfl) ?_
      refine lv_iload_n hC.x hC.b dX10_isX_29 rfl (lv_at hl 1 rfl) ?_
      refine lv_iload_n hC.x hC.b dX10_isX_30 rfl (lv_at hl 2 rfl) ?_
      refine goip (runV (As := [.int hr, .int pl]) (rest := [.ref (G.2.1 52)]) hC hK hR hl.1 (c_X10_at l hG σ τ hr hq (by first | rfl | (rw [show hr.toInt = hr.toInt from rfl]; done) | (rw [show hr.toInt = hr.toInt from rfl]; exact hp_hq)) pl q (by first | rfl | (rw [show pl.toInt = pl.toInt from rfl]; done) | (rw [show pl.toInt = pl.toInt from rfl]; exact hp_q)) (by omega) (by omega)) (call_b hC.ts TC_X10_at TN_X10 TM_X10_140 hd_X10_at ⟨Nat.le_of_ble_eq_true rfl, Nat.le_of_ble_eq_true rfl⟩) TI_X10_at TS_X10_at (ct_model G _ _) rfl rfl rfl (Nat.le_of_ble_eq_true rfl) dX10_isX_31 ⟨Nat.le_of_ble_eq_true rfl, Nat.le_of_ble_eq_true rfl⟩) hS (fun v_11 H locs w_12 hR hS => ?_)
      subst w_12
      refine zald hC hK hR (ct_m_hasX G _ _) (nI_T _ (by omega)) (by omega) (by omega) (Int.toNat_natCast _) dX10_isX_34 ?_
      refine bz_eq (tgt := 42) (a := (σ 52 (24 * hq + q)).toInt) (b := 0) hC.x hC.b rfl rfl dX10_isX_35 (by decide) (fun c_13 => ?_) (fun c_13 => ?_)
      · skip
        refine lv_iconst (v := 0) hC.x hC.b dX10_isX_42 (by decide) ?_
        exact retz hC hK hR hS (Or.inl rfl) ⟨rfl, (by first | exact Or.inr ((⟨by first | rfl | omega, by subst hp_hq; rintro ⟨b1, b2, b3, b4⟩; omega⟩)) | exact False.elim (by omega))⟩ dX10_isX_43
      · skip
        refine lv_iconst (v := 1) hC.x hC.b dX10_isX_38 (by decide) ?_
        refine lv_goto (tgt := 43) hC.x hC.b dX10_isX_39 (by decide) ?_
        exact retz hC hK hR hS (Or.inr rfl) ⟨rfl, (by first | exact Or.inl (⟨by first | rfl | omega, by first | omega | assumption, by first | omega | assumption, by subst hp_hq; exact ⟨by omega, by omega, by omega, by omega⟩⟩) | exact False.elim (by omega))⟩ dX10_isX_43
    · skip
      refine bz_eq (tgt := 42) (a := 0) (b := 0) hC.x hC.b rfl rfl dX10_isX_21 (by decide) (fun _ => ?_) (fun c_14 => absurd c_14 (by decide))
      refine lv_iconst (v := 0) hC.x hC.b dX10_isX_42 (by decide) ?_
      exact retz hC hK hR hS (Or.inl rfl) ⟨rfl, (by first | exact Or.inr ((⟨by first | rfl | omega, by subst hp_hq; rintro ⟨b1, b2, b3, b4⟩; omega⟩)) | exact False.elim (by omega))⟩ dX10_isX_43

abbrev po5_X10_isMissed (σ : SI) (τ : SL) (hr : Int32) (hq : Nat) (pl : Int32) (q : Nat) : Int32 → SI × SL → Prop := fun v u => u = (σ, τ) ∧ (((v = (1)) ∧ (0 ≤ hr.toInt) ∧ (hr.toInt < (σ 35 29).toInt) ∧ (isMp σ q hr.toInt)) ∨ ((v = (0)) ∧ (¬ isMp σ q hr.toInt)))
set_option maxRecDepth 100000 in
set_option maxHeartbeats 4000000 in
theorem c5_X10_isMissed (l : Launch) {G : Gx} {A : Nat → Prop} (hG : GOk G A) (σ : SI) (τ : SL) (hr : Int32) (hq : Nat) (hp_hq : hr.toInt.toNat = hq) (pl : Int32) (q : Nat) (hp_q : pl.toInt.toNat = q) (hnw : 0 ≤ (σ 35 29).toInt ∧ (σ 35 29).toInt ≤ 200) (hin : 0 ≤ pl.toInt ∧ pl.toInt < 24) : MI l G A 2 yX10_isMissed cX10_isMissed 3 (some .boolean) [.ref (G.2.1 35), .int hr, .int pl] (σ, τ) (po5_X10_isMissed σ τ hr hq pl q) := by
  refine met_of (own := RX10) (by decide +kernel) rfl [(0, .ref (G.2.1 35)), (1, .int hr), (2, .int pl)] rfl (Nat.le_of_ble_eq_true rfl) ?_
  intro p e s m args below meth c ls hC hK hR hl
  have hS : va_S A s.heap s.heap [] := va_S.rf
  refine lv_aload_n hC.x hC.b dX10_isMissed_0 rfl (lv_at hl 0 rfl) ?_
  refine lv_iload_n hC.x hC.b dX10_isMissed_1 rfl (lv_at hl 1 rfl) ?_
  refine lv_iload_n hC.x hC.b dX10_isMissed_2 rfl (lv_at hl 2 rfl) ?_
  refine goip (runV (As := [.int hr, .int pl]) (rest := []) hC hK hR hl.1 (c5_X10_isX l hG σ τ hr hq (by first | rfl | (rw [show hr.toInt = hr.toInt from rfl]; done) | (rw [show hr.toInt = hr.toInt from rfl]; exact hp_hq)) pl q (by first | rfl | (rw [show pl.toInt = pl.toInt from rfl]; done) | (rw [show pl.toInt = pl.toInt from rfl]; exact hp_q)) (by first | assumption | omega) (by omega)) (call_b hC.ts TC_X10_isX TN_X10 TM_X10_172 hd_X10_isX ⟨Nat.le_of_ble_eq_true rfl, Nat.le_of_ble_eq_true rfl⟩) TI_X10_isX TS_X10_isX (ct_model G _ _) rfl rfl rfl (Nat.le_of_ble_eq_true rfl) dX10_isMissed_3 ⟨Nat.le_of_ble_eq_true rfl, Nat.le_of_ble_eq_true rfl⟩) hS (fun v_1 H locs w_2 hR hS => ?_)
  rcases w_2 with ⟨rfl, f_3, f_4, f_5⟩ | ⟨rfl, f_6⟩
  · skip
    refine bz_eq (tgt := 27) (a := 1) (b := 0) hC.x hC.b rfl rfl dX10_isMissed_6 (by decide) (fun c_7 => absurd c_7 (by decide)) (fun _ => ?_)
    refine lv_aload_n hC.x hC.b dX10_isMissed_9 rfl (lv_at hl 0 rfl) ?_
    refine rget hC hK hR (ct_model G _ _) rfl uin_X10 17 (by decide) TF_X10_62 rfl dX10_isMissed_10 ?_
    refine lv_aload_n hC.x hC.b dX10_isMissed_13 rfl (lv_at hl 0 rfl) ?_
    refine lv_iload_n hC.x hC.b dX10_isMissed_14 rfl (lv_at hl 1 rfl) ?_
    refine lv_iload_n hC.x hC.b dX10_isMissed_15 rfl (lv_at hl 2 rfl) ?_
    refine goip (runV (As := [.int hr, .int pl]) (rest := [.ref (G.2.1 53)]) hC hK hR hl.1 (c_X10_at l hG σ τ hr hq (by first | rfl | (rw [show hr.toInt = hr.toInt from rfl]; done) | (rw [show hr.toInt = hr.toInt from rfl]; exact hp_hq)) pl q (by first | rfl | (rw [show pl.toInt = pl.toInt from rfl]; done) | (rw [show pl.toInt = pl.toInt from rfl]; exact hp_q)) (by omega) (by omega)) (call_b hC.ts TC_X10_at TN_X10 TM_X10_140 hd_X10_at ⟨Nat.le_of_ble_eq_true rfl, Nat.le_of_ble_eq_true rfl⟩) TI_X10_at TS_X10_at (ct_model G _ _) rfl rfl rfl (Nat.le_of_ble_eq_true rfl) dX10_isMissed_16 ⟨Nat.le_of_ble_eq_true rfl, Nat.le_of_ble_eq_true rfl⟩) hS (fun v_8 H locs w_9 hR hS => ?_)
    subst w_9
    refine zald hC hK hR (ct_m_hasF G _ _) (nI_T _ (by omega)) (by omega) (by omega) (Int.toNat_natCast _) dX10_isMissed_19 ?_
    refine bz_eq (tgt := 27) (a := (σ 53 (24 * hq + q)).toInt) (b := 0) hC.x hC.b rfl rfl dX10_isMissed_20 (by decide) (fun c_10 => ?_) (fun c_10 => ?_)
    · skip
      refine lv_iconst (v := 0) hC.x hC.b dX10_isMissed_27 (by decide) ?_
      exact retz hC hK hR hS (Or.inl rfl) ⟨rfl, (by first | exact Or.inr ((⟨by first | rfl | omega, by subst hp_hq; rintro ⟨b1, b2⟩; first | contradiction | omega⟩)) | exact False.elim (by omega))⟩ dX10_isMissed_28
    · skip
      refine lv_iconst (v := 1) hC.x hC.b dX10_isMissed_23 (by decide) ?_
      refine lv_goto (tgt := 28) hC.x hC.b dX10_isMissed_24 (by decide) ?_
      exact retz hC hK hR hS (Or.inr rfl) ⟨rfl, (by first | exact Or.inl (⟨by first | rfl | omega, by first | omega | assumption, by first | omega | assumption, by subst hp_hq; exact ⟨by assumption, by omega⟩⟩) | exact False.elim (by omega))⟩ dX10_isMissed_28
  · skip
    refine bz_eq (tgt := 27) (a := 0) (b := 0) hC.x hC.b rfl rfl dX10_isMissed_6 (by decide) (fun _ => ?_) (fun c_11 => absurd c_11 (by decide))
    refine lv_iconst (v := 0) hC.x hC.b dX10_isMissed_27 (by decide) ?_
    exact retz hC hK hR hS (Or.inl rfl) ⟨rfl, (by first | exact Or.inr ((⟨by first | rfl | omega, by subst hp_hq; rintro ⟨b1, b2⟩; first | contradiction | omega⟩)) | exact False.elim (by omega))⟩ dX10_isMissed_28

abbrev po5_X10_isGain (σ : SI) (τ : SL) (hr : Int32) (hq : Nat) (pl : Int32) (q : Nat) : Int32 → SI × SL → Prop := fun v u => u = (σ, τ) ∧ (((v = (1)) ∧ (0 ≤ hr.toInt) ∧ (hr.toInt < (σ 35 29).toInt) ∧ (1 ≤ hr.toInt) ∧ (isXp σ q hr.toInt ∧ isXp σ q (hr.toInt - 1) ∧ (σ 35 29).toInt - (σ 37 q).toInt ≤ hr.toInt - 1)) ∨ ((v = (0)) ∧ (¬ (isXp σ q hr.toInt ∧ isXp σ q (hr.toInt - 1) ∧ (σ 35 29).toInt - (σ 37 q).toInt ≤ hr.toInt - 1))))
set_option maxRecDepth 100000 in
set_option maxHeartbeats 4000000 in
theorem c5_X10_isGain (l : Launch) {G : Gx} {A : Nat → Prop} (hG : GOk G A) (σ : SI) (τ : SL) (hr : Int32) (hq : Nat) (hp_hq : hr.toInt.toNat = hq) (pl : Int32) (q : Nat) (hp_q : pl.toInt.toNat = q) (hnw : 0 ≤ (σ 35 29).toInt ∧ (σ 35 29).toInt ≤ 200) (hin : 0 ≤ pl.toInt ∧ pl.toInt < 24) (ho : 2 ≤ (σ 37 q).toInt ∧ (σ 37 q).toInt ≤ 12) : MI l G A 2 yX10_isGain cX10_isGain 3 (some .boolean) [.ref (G.2.1 35), .int hr, .int pl] (σ, τ) (po5_X10_isGain σ τ hr hq pl q) := by
  refine met_of (own := RX10) (by decide +kernel) rfl [(0, .ref (G.2.1 35)), (1, .int hr), (2, .int pl)] rfl (Nat.le_of_ble_eq_true rfl) ?_
  intro p e s m args below meth c ls hC hK hR hl
  have hS : va_S A s.heap s.heap [] := va_S.rf
  refine lv_aload_n hC.x hC.b dX10_isGain_0 rfl (lv_at hl 0 rfl) ?_
  refine lv_iload_n hC.x hC.b dX10_isGain_1 rfl (lv_at hl 1 rfl) ?_
  refine lv_iload_n hC.x hC.b dX10_isGain_2 rfl (lv_at hl 2 rfl) ?_
  refine goip (runV (As := [.int hr, .int pl]) (rest := []) hC hK hR hl.1 (c5_X10_isX l hG σ τ hr hq (by first | rfl | (rw [show hr.toInt = hr.toInt from rfl]; done) | (rw [show hr.toInt = hr.toInt from rfl]; exact hp_hq)) pl q (by first | rfl | (rw [show pl.toInt = pl.toInt from rfl]; done) | (rw [show pl.toInt = pl.toInt from rfl]; exact hp_q)) (by first | assumption | omega) (by omega)) (call_b hC.ts TC_X10_isX TN_X10 TM_X10_172 hd_X10_isX ⟨Nat.le_of_ble_eq_true rfl, Nat.le_of_ble_eq_true rfl⟩) TI_X10_isX TS_X10_isX (ct_model G _ _) rfl rfl rfl (Nat.le_of_ble_eq_true rfl) dX10_isGain_3 ⟨Nat.le_of_ble_eq_true rfl, Nat.le_of_ble_eq_true rfl⟩) hS (fun v_1 H locs w_2 hR hS => ?_)
  rcases w_2 with ⟨rfl, f_3, f_4, f_5⟩ | ⟨rfl, f_6⟩
  · skip
    refine bz_eq (tgt := 41) (a := 1) (b := 0) hC.x hC.b rfl rfl dX10_isGain_6 (by decide) (fun c_7 => absurd c_7 (by decide)) (fun _ => ?_)
    refine lv_aload_n hC.x hC.b dX10_isGain_9 rfl (lv_at hl 0 rfl) ?_
    refine lv_iload_n hC.x hC.b dX10_isGain_10 rfl (lv_at hl 1 rfl) ?_
    refine lv_iconst (v := 1) hC.x hC.b dX10_isGain_11 (by decide) ?_
    refine lv_isub hC.x hC.b dX10_isGain_12 ?_
    have pr_8 : (hr - (1 : Int32)).toInt = (hr.toInt - 1) := subI rfl rfl (by omega) (by omega)
    refine lv_iload_n hC.x hC.b dX10_isGain_13 rfl (lv_at hl 2 rfl) ?_
    have av_9 : (hr - (1 : Int32)).toInt = (hr.toInt - 1) := pr_8
    refine goip (runV (As := [.int (hr - (1 : Int32)), .int pl]) (rest := []) hC hK hR hl.1 (c5_X10_isX l hG σ τ (hr - (1 : Int32)) ((hr.toInt - 1).toNat) (by first | rfl | (rw [show (hr - (1 : Int32)).toInt = (hr.toInt - 1) from pr_8]; done) | (rw [show (hr - (1 : Int32)).toInt = (hr.toInt - 1) from pr_8]; exact rfl)) pl q (by first | rfl | (rw [show pl.toInt = pl.toInt from rfl]; done) | (rw [show pl.toInt = pl.toInt from rfl]; exact hp_q)) (by first | assumption | omega) (by omega)) (call_b hC.ts TC_X10_isX TN_X10 TM_X10_172 hd_X10_isX ⟨Nat.le_of_ble_eq_true rfl, Nat.le_of_ble_eq_true rfl⟩) TI_X10_isX TS_X10_isX (ct_model G _ _) rfl rfl rfl (Nat.le_of_ble_eq_true rfl) dX10_isGain_14 ⟨Nat.le_of_ble_eq_true rfl, Nat.le_of_ble_eq_true rfl⟩) hS (fun v_10 H locs w_11 hR hS => ?_)
    rcases w_11 with ⟨rfl, f_12, f_13, f_14⟩ | ⟨rfl, f_15⟩
    · skip
      refine bz_eq (tgt := 41) (a := 1) (b := 0) hC.x hC.b rfl rfl dX10_isGain_17 (by decide) (fun c_16 => absurd c_16 (by decide)) (fun _ => ?_)
      refine lv_iload_n hC.x hC.b dX10_isGain_20 rfl (lv_at hl 1 rfl) ?_
      refine lv_iconst (v := 1) hC.x hC.b dX10_isGain_21 (by decide) ?_
      refine lv_isub hC.x hC.b dX10_isGain_22 ?_
      have pr_17 : (hr - (1 : Int32)).toInt = (hr.toInt - 1) := subI rfl rfl (by omega) (by omega)
      refine lv_aload_n hC.x hC.b dX10_isGain_23 rfl (lv_at hl 0 rfl) ?_
      refine rget hC hK hR (ct_model G _ _) rfl uin_X10 29 (by decide) TF_X10_137 rfl dX10_isGain_24 ?_
      refine lv_aload_n hC.x hC.b dX10_isGain_27 rfl (lv_at hl 0 rfl) ?_
      refine rget hC hK hR (ct_model G _ _) rfl uin_X10 1 (by decide) TF_X10_13 rfl dX10_isGain_28 ?_
      refine lv_iload_n hC.x hC.b dX10_isGain_31 rfl (lv_at hl 2 rfl) ?_
      refine ald hC hK hR (ct_m_one G _ _) rfl (by omega) (by omega) hp_q dX10_isGain_32 ?_
      refine lv_isub hC.x hC.b dX10_isGain_33 ?_
      have pr_18 : ((σ 35 29) - (σ 37 q)).toInt = ((σ 35 29).toInt - (σ 37 q).toInt) := subI rfl rfl (by omega) (by omega)
      refine bi_lt (tgt := 41) (a := (hr.toInt - 1)) (b := ((σ 35 29).toInt - (σ 37 q).toInt)) hC.x hC.b pr_17 pr_18 dX10_isGain_34 (by decide) (fun c_19 => ?_) (fun c_19 => ?_)
      · skip
        refine lv_iconst (v := 0) hC.x hC.b dX10_isGain_41 (by decide) ?_
        exact retz hC hK hR hS (Or.inl rfl) ⟨rfl, (by first | exact Or.inr ((⟨by first | rfl | omega, by rintro ⟨b1, b2, b3⟩; first | contradiction | (rw [show hr.toInt - 1 = (hr - (1 : Int32)).toInt by omega] at b2; contradiction) | omega⟩)) | exact False.elim (by omega))⟩ dX10_isGain_42
      · skip
        refine lv_iconst (v := 1) hC.x hC.b dX10_isGain_37 (by decide) ?_
        refine lv_goto (tgt := 42) hC.x hC.b dX10_isGain_38 (by decide) ?_
        exact retz hC hK hR hS (Or.inr rfl) ⟨rfl, (by first | exact Or.inl (⟨by first | rfl | omega, by first | omega | assumption, by first | omega | assumption, by first | omega | assumption, by refine ⟨by assumption, ?_, by omega⟩; rw [show hr.toInt - 1 = (hr - (1 : Int32)).toInt by omega]; assumption⟩) | exact False.elim (by omega))⟩ dX10_isGain_42
    · skip
      refine bz_eq (tgt := 41) (a := 0) (b := 0) hC.x hC.b rfl rfl dX10_isGain_17 (by decide) (fun _ => ?_) (fun c_20 => absurd c_20 (by decide))
      refine lv_iconst (v := 0) hC.x hC.b dX10_isGain_41 (by decide) ?_
      exact retz hC hK hR hS (Or.inl rfl) ⟨rfl, (by first | exact Or.inr ((⟨by first | rfl | omega, by rintro ⟨b1, b2, b3⟩; first | contradiction | (rw [show hr.toInt - 1 = (hr - (1 : Int32)).toInt by omega] at b2; contradiction) | omega⟩)) | exact False.elim (by omega))⟩ dX10_isGain_42
  · skip
    refine bz_eq (tgt := 41) (a := 0) (b := 0) hC.x hC.b rfl rfl dX10_isGain_6 (by decide) (fun _ => ?_) (fun c_21 => absurd c_21 (by decide))
    refine lv_iconst (v := 0) hC.x hC.b dX10_isGain_41 (by decide) ?_
    exact retz hC hK hR hS (Or.inl rfl) ⟨rfl, (by first | exact Or.inr ((⟨by first | rfl | omega, by rintro ⟨b1, b2, b3⟩; first | contradiction | (rw [show hr.toInt - 1 = (hr - (1 : Int32)).toInt by omega] at b2; contradiction) | omega⟩)) | exact False.elim (by omega))⟩ dX10_isGain_42

abbrev po5_X10_downwards (σ : SI) (τ : SL) (xa : Int64) (ya : Int64) : Int64 → SI × SL → Prop := fun v u => u = (σ, τ) ∧ (((0 < ya.toInt → ya.toInt < 4000000000000000000 → -4000000000000000000 < xa.toInt → v.toInt = xa.toInt / ya.toInt)))
set_option maxRecDepth 100000 in
set_option maxHeartbeats 4000000 in
theorem c5_X10_downwards (l : Launch) {G : Gx} {A : Nat → Prop} (hG : GOk G A) (σ : SI) (τ : SL) (xa : Int64) (ya : Int64) (hnz : ya.toInt ≠ 0) : ML l G A 0 yX10_downwards cX10_downwards 4 (some .long) [.long xa, .long ya] (σ, τ) (po5_X10_downwards σ τ xa ya) := by
  refine met_of (own := RX10) (by decide +kernel) rfl [(0, .long xa), (2, .long ya)] rfl (Nat.le_of_ble_eq_true rfl) ?_
  intro p e s m args below meth c ls hC hK hR hl
  have hS : va_S A s.heap s.heap [] := va_S.rf
  refine lv_lload_n hC.x hC.b dX10_downwards_0 rfl (lv_at hl 0 rfl) ?_
  refine lv_lconst (v := 0) hC.x hC.b dX10_downwards_1 (by decide) ?_
  refine bl_lt (tgt := 12) (a := xa.toInt) (b := 0) hC.x hC.b rfl rfl dX10_downwards_2 dX10_downwards_3 (by decide) (fun c_1 => ?_) (fun c_1 => ?_)
  · skip
    refine lv_lload_n hC.x hC.b dX10_downwards_12 rfl (lv_at hl 0 rfl) ?_
    refine lv_lneg hC.x hC.b dX10_downwards_13 ?_
    refine lv_lload_n hC.x hC.b dX10_downwards_14 rfl (lv_at hl 1 rfl) ?_
    refine lv_ladd hC.x hC.b dX10_downwards_15 ?_
    refine lv_lconst (v := 1) hC.x hC.b dX10_downwards_16 (by decide) ?_
    refine lv_lsub hC.x hC.b dX10_downwards_17 ?_
    refine lv_lload_n hC.x hC.b dX10_downwards_18 rfl (lv_at hl 1 rfl) ?_
    refine lv_ldiv hC.x hC.b dX10_downwards_19 (ne0L rfl (by omega)) ?_
    refine lv_lneg hC.x hC.b dX10_downwards_20 ?_
    exact retl hC hK hR hS ⟨rfl, (by intro hy hy2 hx; first | exact dw_a hy (by omega) | exact dw_b hy hy2 hx (by omega))⟩ dX10_downwards_21
  · skip
    refine lv_lload_n hC.x hC.b dX10_downwards_6 rfl (lv_at hl 0 rfl) ?_
    refine lv_lload_n hC.x hC.b dX10_downwards_7 rfl (lv_at hl 1 rfl) ?_
    refine lv_ldiv hC.x hC.b dX10_downwards_8 (ne0L rfl (by omega)) ?_
    refine lv_goto (tgt := 21) hC.x hC.b dX10_downwards_9 (by decide) ?_
    exact retl hC hK hR hS ⟨rfl, (by intro hy hy2 hx; first | exact dw_a hy (by omega) | exact dw_b hy hy2 hx (by omega))⟩ dX10_downwards_21

abbrev po5_X10_amount (σ : SI) (τ : SL) (xa : Int32) : Int32 → SI × SL → Prop := fun v u => u = (σ, τ) ∧ (((v = if 0 ≤ xa.toInt then xa else -xa)))
set_option maxRecDepth 100000 in
set_option maxHeartbeats 4000000 in
theorem c5_X10_amount (l : Launch) {G : Gx} {A : Nat → Prop} (hG : GOk G A) (σ : SI) (τ : SL) (xa : Int32) : MI l G A 0 yX10_amount cX10_amount 1 (some .int) [.int xa] (σ, τ) (po5_X10_amount σ τ xa) := by
  refine met_of (own := RX10) (by decide +kernel) rfl [(0, .int xa)] rfl (Nat.le_of_ble_eq_true rfl) ?_
  intro p e s m args below meth c ls hC hK hR hl
  have hS : va_S A s.heap s.heap [] := va_S.rf
  refine lv_iload_n hC.x hC.b dX10_amount_0 rfl (lv_at hl 0 rfl) ?_
  refine bz_ge (tgt := 9) (a := xa.toInt) (b := 0) hC.x hC.b rfl rfl dX10_amount_1 (by decide) (fun c_1 => ?_) (fun c_1 => ?_)
  · skip
    refine lv_iload_n hC.x hC.b dX10_amount_9 rfl (lv_at hl 0 rfl) ?_
    exact reti hC hK hR hS ⟨rfl, (by first | (rw [if_pos (by omega)]) | (rw [if_neg (by omega)]))⟩ dX10_amount_10
  · skip
    refine lv_iload_n hC.x hC.b dX10_amount_4 rfl (lv_at hl 0 rfl) ?_
    refine lv_ineg hC.x hC.b dX10_amount_5 ?_
    refine lv_goto (tgt := 10) hC.x hC.b dX10_amount_6 (by decide) ?_
    exact reti hC hK hR hS ⟨rfl, (by first | (rw [if_pos (by omega)]) | (rw [if_neg (by omega)]))⟩ dX10_amount_10

abbrev po5_X10_byGains (σ : SI) (τ : SL) (pl : Int32) (q : Nat) : Int32 → SI × SL → Prop := fun v u => u = (σ, τ) ∧ (((v = (1)) ∧ (1 ≤ (σ 35 29).toInt) ∧ (bGp (pX σ q) (σ 37 q).toInt (σ 35 29).toInt (σ 36 q).toInt)) ∨ ((v = (0)) ∧ (¬ bGp (pX σ q) (σ 37 q).toInt (σ 35 29).toInt (σ 36 q).toInt)))
set_option maxRecDepth 100000 in
set_option maxHeartbeats 4000000 in
theorem c5_X10_byGains (l : Launch) {G : Gx} {A : Nat → Prop} (hG : GOk G A) (σ : SI) (τ : SL) (pl : Int32) (q : Nat) (hp_q : pl.toInt.toNat = q) (hnw : 0 ≤ (σ 35 29).toInt ∧ (σ 35 29).toInt ≤ 200) (hin : 0 ≤ pl.toInt ∧ pl.toInt < 24) (ho : 2 ≤ (σ 37 q).toInt ∧ (σ 37 q).toInt ≤ 12) (hxb : XB σ) : MI l G A 3 yX10_byGains cX10_byGains 4 (some .boolean) [.ref (G.2.1 35), .int pl] (σ, τ) (po5_X10_byGains σ τ pl q) := by
  refine met_of (own := RX10) (by decide +kernel) rfl [(0, .ref (G.2.1 35)), (1, .int pl)] rfl (Nat.le_of_ble_eq_true rfl) ?_
  intro p e s m args below meth c ls hC hK hR hl
  have hS : va_S A s.heap s.heap [] := va_S.rf
  refine lv_iconst (v := 0) hC.x hC.b dX10_byGains_0 (by decide) ?_
  refine lv_istore_n (lv' := [(2, .int (0 : Int32)), (0, .ref (G.2.1 35)), (1, .int pl)]) hC.x hC.b dX10_byGains_1 rfl hl (by decide) rfl (fun ls hl => ?_)
  refine lv_aload_n hC.x hC.b dX10_byGains_2 rfl (lv_at hl 1 rfl) ?_
  refine rget hC hK hR (ct_model G _ _) rfl uin_X10 29 (by decide) TF_X10_137 rfl dX10_byGains_3 ?_
  refine lv_aload_n hC.x hC.b dX10_byGains_6 rfl (lv_at hl 1 rfl) ?_
  refine rget hC hK hR (ct_model G _ _) rfl uin_X10 1 (by decide) TF_X10_13 rfl dX10_byGains_7 ?_
  refine lv_iload_n hC.x hC.b dX10_byGains_10 rfl (lv_at hl 2 rfl) ?_
  refine ald hC hK hR (ct_m_one G _ _) rfl (by omega) (by omega) hp_q dX10_byGains_11 ?_
  refine lv_isub hC.x hC.b dX10_byGains_12 ?_
  have pr_1 : ((σ 35 29) - (σ 37 q)).toInt = ((σ 35 29).toInt - (σ 37 q).toInt) := subI rfl rfl (by omega) (by omega)
  refine lv_istore_n (lv' := [(3, .int ((σ 35 29) - (σ 37 q))), (2, .int (0 : Int32)), (0, .ref (G.2.1 35)), (1, .int pl)]) hC.x hC.b dX10_byGains_13 rfl hl (by decide) rfl (fun ls hl => ?_)
  have L_14 : ∀ (F : Nat) (n : Nat) (x2 : Int32) (t : Int32), (((σ 35 29).toInt - t.toInt).toNat) < F → (t.toInt = ((σ 35 29).toInt - (σ 37 q).toInt) + n ∧ (n : Int) ≤ (σ 37 q).toInt) → (x2 = (LN (fG (pX σ q) ((σ 35 29).toInt - (σ 37 q).toInt)) ((σ 35 29).toInt - (σ 37 q).toInt) (σ 35 29).toInt n).1) → ∀ (H : Heap) (locs : List Loc) (ls : Array Slot), RepH G σ τ H → va_S A s.heap H locs → lv_has ls 4 [(0, .ref (G.2.1 35)), (1, .int pl), (2, .int x2), (3, .int t)] → W p l e (rmD 3) s m args below meth c H locs 0 0 (MQ below (va_Qi (po5_X10_byGains σ τ pl q) (BU G) A) args s 0 0 A) (F0 m 14 ls []) := by
    intro F
    induction F with
    | zero => intro n x2 t hm; exact absurd hm (Nat.not_lt_zero _)
    | succ F ih_14 =>
      intro n x2 t hm_14 hi0_14 hi1_14 H locs ls hR hS hl
      refine lv_iload_n hC.x hC.b dX10_byGains_14 rfl (lv_at hl 3 rfl) ?_
      refine lv_aload_n hC.x hC.b dX10_byGains_15 rfl (lv_at hl 0 rfl) ?_
      refine rget hC hK hR (ct_model G _ _) rfl uin_X10 29 (by decide) TF_X10_137 rfl dX10_byGains_16 ?_
      refine bi_ge (tgt := 45) (a := t.toInt) (b := (σ 35 29).toInt) hC.x hC.b rfl rfl dX10_byGains_19 (by decide) (fun c_2 => ?_) (fun c_2 => ?_)
      · skip
        refine lv_aload_n hC.x hC.b dX10_byGains_45 rfl (lv_at hl 0 rfl) ?_
        refine rget hC hK hR (ct_model G _ _) rfl uin_X10 0 (by decide) TF_X10_9 rfl dX10_byGains_46 ?_
        refine lv_iload_n hC.x hC.b dX10_byGains_49 rfl (lv_at hl 1 rfl) ?_
        refine ald hC hK hR (ct_m_kinds G _ _) rfl (by omega) (by omega) hp_q dX10_byGains_50 ?_
        refine lv_iconst (v := 2) hC.x hC.b dX10_byGains_51 (by decide) ?_
        refine bi_ne (tgt := 78) (a := (σ 36 q).toInt) (b := 2) hC.x hC.b rfl rfl dX10_byGains_52 (by decide) (fun c_3 => ?_) (fun c_3 => ?_)
        · skip
          refine lv_iconst (v := 0) hC.x hC.b dX10_byGains_78 (by decide) ?_
          exact retz hC hK hR hS (Or.inl rfl) ⟨rfl, (by first | exact Or.inr ((⟨by first | rfl | omega, by (have e9 : n = (σ 37 q).toInt.toNat := by omega); subst e9; exact bgm_n hi1_14 (by first | exact Or.inl (by omega) | exact Or.inr (Or.inl (by omega)) | exact Or.inr (Or.inr ⟨_, by assumption, by omega⟩))⟩)) | exact False.elim (by omega))⟩ dX10_byGains_79
        · skip
          refine lv_iload_n hC.x hC.b dX10_byGains_55 rfl (lv_at hl 2 rfl) ?_
          refine lv_iconst (v := 1) hC.x hC.b dX10_byGains_56 (by decide) ?_
          refine bi_le (tgt := 78) (a := x2.toInt) (b := 1) hC.x hC.b rfl rfl dX10_byGains_57 (by decide) (fun c_4 => ?_) (fun c_4 => ?_)
          · skip
            refine lv_iconst (v := 0) hC.x hC.b dX10_byGains_78 (by decide) ?_
            exact retz hC hK hR hS (Or.inl rfl) ⟨rfl, (by first | exact Or.inr ((⟨by first | rfl | omega, by (have e9 : n = (σ 37 q).toInt.toNat := by omega); subst e9; exact bgm_n hi1_14 (by first | exact Or.inl (by omega) | exact Or.inr (Or.inl (by omega)) | exact Or.inr (Or.inr ⟨_, by assumption, by omega⟩))⟩)) | exact False.elim (by omega))⟩ dX10_byGains_79
          · skip
            refine lv_aload_n hC.x hC.b dX10_byGains_60 rfl (lv_at hl 0 rfl) ?_
            refine lv_aload_n hC.x hC.b dX10_byGains_61 rfl (lv_at hl 0 rfl) ?_
            refine rget hC hK hR (ct_model G _ _) rfl uin_X10 29 (by decide) TF_X10_137 rfl dX10_byGains_62 ?_
            refine lv_iconst (v := 1) hC.x hC.b dX10_byGains_65 (by decide) ?_
            refine lv_isub hC.x hC.b dX10_byGains_66 ?_
            have pr_5 : ((σ 35 29) - (1 : Int32)).toInt = ((σ 35 29).toInt - 1) := subI rfl rfl (by omega) (by omega)
            refine lv_iload_n hC.x hC.b dX10_byGains_67 rfl (lv_at hl 1 rfl) ?_
            have av_6 : ((σ 35 29) - (1 : Int32)).toInt = ((σ 35 29).toInt - 1) := pr_5
            refine goip (runV (As := [.int ((σ 35 29) - (1 : Int32)), .int pl]) (rest := []) hC hK hR hl.1 (c5_X10_isX l hG σ τ ((σ 35 29) - (1 : Int32)) (((σ 35 29).toInt - 1).toNat) (by first | rfl | (rw [show ((σ 35 29) - (1 : Int32)).toInt = ((σ 35 29).toInt - 1) from pr_5]; done) | (rw [show ((σ 35 29) - (1 : Int32)).toInt = ((σ 35 29).toInt - 1) from pr_5]; exact rfl)) pl q (by first | rfl | (rw [show pl.toInt = pl.toInt from rfl]; done) | (rw [show pl.toInt = pl.toInt from rfl]; exact hp_q)) (by first | assumption | omega) (by omega)) (call_b hC.ts TC_X10_isX TN_X10 TM_X10_172 hd_X10_isX ⟨Nat.le_of_ble_eq_true rfl, Nat.le_of_ble_eq_true rfl⟩) TI_X10_isX TS_X10_isX (ct_model G _ _) rfl rfl rfl (Nat.le_of_ble_eq_true rfl) dX10_byGains_68 ⟨Nat.le_of_ble_eq_true rfl, Nat.le_of_ble_eq_true rfl⟩) hS (fun v_7 H locs w_8 hR hS => ?_)
            rcases w_8 with ⟨rfl, f_9, f_10, f_11⟩ | ⟨rfl, f_12⟩
            · skip
              refine bz_eq (tgt := 78) (a := 1) (b := 0) hC.x hC.b rfl rfl dX10_byGains_71 (by decide) (fun c_13 => absurd c_13 (by decide)) (fun _ => ?_)
              refine lv_iconst (v := 1) hC.x hC.b dX10_byGains_74 (by decide) ?_
              refine lv_goto (tgt := 79) hC.x hC.b dX10_byGains_75 (by decide) ?_
              exact retz hC hK hR hS (Or.inr rfl) ⟨rfl, (by first | exact Or.inl (⟨by first | rfl | omega, by first | omega | assumption, by (have e9 : n = (σ 37 q).toInt.toNat := by omega); subst e9; exact bgm_y hxb hi1_14 (by omega) (by omega) (by assumption) (by omega)⟩) | exact False.elim (by omega))⟩ dX10_byGains_79
            · skip
              refine bz_eq (tgt := 78) (a := 0) (b := 0) hC.x hC.b rfl rfl dX10_byGains_71 (by decide) (fun _ => ?_) (fun c_14 => absurd c_14 (by decide))
              refine lv_iconst (v := 0) hC.x hC.b dX10_byGains_78 (by decide) ?_
              exact retz hC hK hR hS (Or.inl rfl) ⟨rfl, (by first | exact Or.inr ((⟨by first | rfl | omega, by (have e9 : n = (σ 37 q).toInt.toNat := by omega); subst e9; exact bgm_n hi1_14 (by first | exact Or.inl (by omega) | exact Or.inr (Or.inl (by omega)) | exact Or.inr (Or.inr ⟨_, by assumption, by omega⟩))⟩)) | exact False.elim (by omega))⟩ dX10_byGains_79
      · skip
        refine lv_iload_n hC.x hC.b dX10_byGains_22 rfl (lv_at hl 2 rfl) ?_
        refine lv_aload_n hC.x hC.b dX10_byGains_23 rfl (lv_at hl 0 rfl) ?_
        refine lv_iload_n hC.x hC.b dX10_byGains_24 rfl (lv_at hl 3 rfl) ?_
        refine lv_iload_n hC.x hC.b dX10_byGains_25 rfl (lv_at hl 1 rfl) ?_
        refine goip (runV (As := [.int t, .int pl]) (rest := [.int x2]) hC hK hR hl.1 (c5_X10_isGain l hG σ τ t t.toInt.toNat rfl pl q (by first | rfl | (rw [show pl.toInt = pl.toInt from rfl]; done) | (rw [show pl.toInt = pl.toInt from rfl]; exact hp_q)) (by first | assumption | omega) (by omega) (by first | assumption | omega)) (call_b hC.ts TC_X10_isGain TN_X10 TM_X10_179 hd_X10_isGain ⟨Nat.le_of_ble_eq_true rfl, Nat.le_of_ble_eq_true rfl⟩) TI_X10_isGain TS_X10_isGain (ct_model G _ _) rfl rfl rfl (Nat.le_of_ble_eq_true rfl) dX10_byGains_26 ⟨Nat.le_of_ble_eq_true rfl, Nat.le_of_ble_eq_true rfl⟩) hS (fun v_15 H locs w_16 hR hS => ?_)
        rcases w_16 with ⟨rfl, f_17, f_18, f_19, f_20⟩ | ⟨rfl, f_21⟩
        · skip
          refine bz_eq (tgt := 36) (a := 1) (b := 0) hC.x hC.b rfl rfl dX10_byGains_29 (by decide) (fun c_22 => absurd c_22 (by decide)) (fun _ => ?_)
          refine lv_iconst (v := 1) hC.x hC.b dX10_byGains_32 (by decide) ?_
          refine lv_goto (tgt := 37) hC.x hC.b dX10_byGains_33 (by decide) ?_
          refine lv_iadd hC.x hC.b dX10_byGains_37 ?_
          refine lv_istore_n (lv' := [(2, .int (x2 + (1 : Int32))), (0, .ref (G.2.1 35)), (1, .int pl), (3, .int t)]) hC.x hC.b dX10_byGains_38 rfl hl (by decide) rfl (fun ls hl => ?_)
          obtain ⟨x_23, ex_24⟩ : ∃ y : Int32, y = t + 1 := ⟨_, rfl⟩
          have pr_25 : x_23.toInt = t.toInt + (1) := by rw [ex_24]; exact addI rfl rfl (by omega) (by omega)
          refine lv_iinc (v := x_23) (lv' := [(3, .int x_23), (2, .int (x2 + (1 : Int32))), (0, .ref (G.2.1 35)), (1, .int pl)]) hC.x hC.b dX10_byGains_39 hl (k := 3) rfl ex_24.symm (by decide) rfl (fun ls hl => ?_)
          refine lv_goto (tgt := 14) hC.x hC.b dX10_byGains_42 (by decide) ?_
          exact ih_14 (n + 1) (x2 + (1 : Int32)) x_23 (by omega) (by first | omega | assumption) (by first | exact bg_s hxb hi1_14 hi0_14.1 (by assumption) | exact bg_n hi1_14 hi0_14.1 (by assumption)) _ _ _ hR hS (lv_sub hl [2, 3, 1, 0] rfl)
        · skip
          refine bz_eq (tgt := 36) (a := 0) (b := 0) hC.x hC.b rfl rfl dX10_byGains_29 (by decide) (fun _ => ?_) (fun c_26 => absurd c_26 (by decide))
          refine lv_iconst (v := 0) hC.x hC.b dX10_byGains_36 (by decide) ?_
          refine lv_iadd hC.x hC.b dX10_byGains_37 ?_
          refine lv_istore_n (lv' := [(2, .int (x2 + (0 : Int32))), (0, .ref (G.2.1 35)), (1, .int pl), (3, .int t)]) hC.x hC.b dX10_byGains_38 rfl hl (by decide) rfl (fun ls hl => ?_)
          obtain ⟨x_27, ex_28⟩ : ∃ y : Int32, y = t + 1 := ⟨_, rfl⟩
          have pr_29 : x_27.toInt = t.toInt + (1) := by rw [ex_28]; exact addI rfl rfl (by omega) (by omega)
          refine lv_iinc (v := x_27) (lv' := [(3, .int x_27), (2, .int (x2 + (0 : Int32))), (0, .ref (G.2.1 35)), (1, .int pl)]) hC.x hC.b dX10_byGains_39 hl (k := 3) rfl ex_28.symm (by decide) rfl (fun ls hl => ?_)
          refine lv_goto (tgt := 14) hC.x hC.b dX10_byGains_42 (by decide) ?_
          exact ih_14 (n + 1) (x2 + (0 : Int32)) x_27 (by omega) (by first | omega | assumption) (by first | exact bg_s hxb hi1_14 hi0_14.1 (by assumption) | exact bg_n hi1_14 hi0_14.1 (by assumption)) _ _ _ hR hS (lv_sub hl [2, 3, 1, 0] rfl)
  exact L_14 _ 0 (0 : Int32) ((σ 35 29) - (σ 37 q)) (Nat.lt_succ_self _) (by first | omega | assumption) (by rfl) _ _ _ hR hS (lv_sub hl [2, 3, 1, 0] rfl)

abbrev po5_X10_line (σ : SI) (τ : SL) (pl : Int32) (q : Nat) (ga : Int32) : SI × SL → Prop := fun u => ((MRel (fun _ => False) (fun j => j = 44) σ u.1) ∧ (0 < (u.2 35 46).toInt ∧ (u.2 35 46).toInt < 32768) ∧ (LNp u.1 u.2 (LN (fF ga (pX σ q) ((σ 35 29).toInt - (σ 37 q).toInt)) ((σ 35 29).toInt - (σ 37 q).toInt) (σ 35 29).toInt (σ 37 q).toInt.toNat)))
set_option maxRecDepth 100000 in
set_option maxHeartbeats 4000000 in
theorem c5_X10_line (l : Launch) {G : Gx} {A : Nat → Prop} (hG : GOk G A) (σ : SI) (τ : SL) (pl : Int32) (q : Nat) (hp_q : pl.toInt.toNat = q) (ga : Int32) (hnw : 0 ≤ (σ 35 29).toInt ∧ (σ 35 29).toInt ≤ 200) (hin : 0 ≤ pl.toInt ∧ pl.toInt < 24) (ho : 2 ≤ (σ 37 q).toInt ∧ (σ 37 q).toInt ≤ 12) (hxb : XB σ) : MV l G A 3 yX10_line cX10_line 16 none [.ref (G.2.1 35), .int pl, .int ga] (σ, τ) (po5_X10_line σ τ pl q ga) := by
  refine met_of (own := RX10) (by decide +kernel) rfl [(0, .ref (G.2.1 35)), (1, .int pl), (2, .int ga)] rfl (Nat.le_of_ble_eq_true rfl) ?_
  intro p e s m args below meth c ls hC hK hR hl
  have hS : va_S A s.heap s.heap [] := va_S.rf
  refine lv_lconst (v := 0) hC.x hC.b dX10_line_0 (by decide) ?_
  refine lv_lstore_n (lv' := [(3, .long (0 : Int64)), (0, .ref (G.2.1 35)), (1, .int pl), (2, .int ga)]) hC.x hC.b dX10_line_1 rfl hl (by decide) rfl (fun ls hl => ?_)
  refine lv_lconst (v := 0) hC.x hC.b dX10_line_2 (by decide) ?_
  refine lv_lstore (lv' := [(5, .long (0 : Int64)), (3, .long (0 : Int64)), (0, .ref (G.2.1 35)), (1, .int pl), (2, .int ga)]) hC.x hC.b dX10_line_3 hl (by decide) rfl (fun ls hl => ?_)
  refine lv_lconst (v := 0) hC.x hC.b dX10_line_5 (by decide) ?_
  refine lv_lstore (lv' := [(7, .long (0 : Int64)), (5, .long (0 : Int64)), (3, .long (0 : Int64)), (0, .ref (G.2.1 35)), (1, .int pl), (2, .int ga)]) hC.x hC.b dX10_line_6 hl (by decide) rfl (fun ls hl => ?_)
  refine lv_lconst (v := 0) hC.x hC.b dX10_line_8 (by decide) ?_
  refine lv_lstore (lv' := [(9, .long (0 : Int64)), (7, .long (0 : Int64)), (5, .long (0 : Int64)), (3, .long (0 : Int64)), (0, .ref (G.2.1 35)), (1, .int pl), (2, .int ga)]) hC.x hC.b dX10_line_9 hl (by decide) rfl (fun ls hl => ?_)
  refine lv_aload_n hC.x hC.b dX10_line_11 rfl (lv_at hl 4 rfl) ?_
  refine lv_iconst (v := 0) hC.x hC.b dX10_line_12 (by decide) ?_
  refine rputi hC hK hG hR hS (ct_model G _ _) rfl uin_X10 tyX10 tyX10_ok nmX10 44 (by decide) TF_X10_176 rfl (Or.inl rfl) (Nat.le_of_ble_eq_true rfl) rfl (ct_model G _ _) dX10_line_13 (fun s_2 es_1 H locs hR hS => ?_)
  refine lv_aload_n hC.x hC.b dX10_line_16 rfl (lv_at hl 4 rfl) ?_
  refine rget hC hK hR (ct_model G _ _) rfl uin_X10 29 (by decide) TF_X10_137 rfl dX10_line_17 ?_
  have rd_3 : (s_2 35 29).toInt = (σ 35 29).toInt := congrArg Int32.toInt (show s_2 35 29 = σ 35 29 from (by rw [es_1]; exact up2_n (by omega)))
  refine lv_aload_n hC.x hC.b dX10_line_20 rfl (lv_at hl 4 rfl) ?_
  refine rget hC hK hR (ct_model G _ _) rfl uin_X10 1 (by decide) TF_X10_13 rfl dX10_line_21 ?_
  refine lv_iload_n hC.x hC.b dX10_line_24 rfl (lv_at hl 5 rfl) ?_
  refine ald hC hK hR (ct_m_one G _ _) rfl (by omega) (by omega) hp_q dX10_line_25 ?_
  have rd_4 : (s_2 37 q).toInt = (σ 37 q).toInt := congrArg Int32.toInt (show s_2 37 q = σ 37 q from (by rw [es_1]; exact up2_o (by omega)))
  refine lv_isub hC.x hC.b dX10_line_26 ?_
  have pr_5 : ((s_2 35 29) - (s_2 37 q)).toInt = ((s_2 35 29).toInt - (s_2 37 q).toInt) := subI rfl rfl (by omega) (by omega)
  refine lv_topi (fun x_6 ex_7 => ?_)
  have pr_8 : x_6.toInt = ((s_2 35 29).toInt - (s_2 37 q).toInt) := by rw [ex_7]; exact pr_5
  refine lv_istore (lv' := [(11, .int x_6), (9, .long (0 : Int64)), (7, .long (0 : Int64)), (5, .long (0 : Int64)), (3, .long (0 : Int64)), (0, .ref (G.2.1 35)), (1, .int pl), (2, .int ga)]) hC.x hC.b dX10_line_27 hl (by decide) rfl (fun ls hl => ?_)
  have L_29 : ∀ (F : Nat) (n : Nat) (x3 : Int64) (x5 : Int64) (x7 : Int64) (x9 : Int64) (t : Int32) (s1 : SI) (t1 : SL), (((σ 35 29).toInt - t.toInt).toNat) < F → ((σ 35 29).toInt - (σ 37 q).toInt ≤ t.toInt ∧ t.toInt ≤ (σ 35 29).toInt) → (LSq (-(σ 37 q).toInt) (t.toInt - ((σ 35 29).toInt - (σ 37 q).toInt)) (s1 35 44).toInt x3.toInt x7.toInt) → (t.toInt = ((σ 35 29).toInt - (σ 37 q).toInt) + n ∧ (n : Int) ≤ (σ 37 q).toInt) → (LNm s1 x3 x5 x7 x9 (LN (fF ga (pX σ q) ((σ 35 29).toInt - (σ 37 q).toInt)) ((σ 35 29).toInt - (σ 37 q).toInt) (σ 35 29).toInt n)) → (MRel (fun _ => False) (fun j => j = 44) σ s1) → ∀ (H : Heap) (locs : List Loc) (ls : Array Slot), RepH G s1 t1 H → va_S A s.heap H locs → lv_has ls 16 [(0, .ref (G.2.1 35)), (1, .int pl), (2, .int ga), (3, .long x3), (5, .long x5), (7, .long x7), (9, .long x9), (11, .int t)] → W p l e (rmD 3) s m args below meth c H locs 0 0 (MQ below (va_Qv (po5_X10_line σ τ pl q ga) (BU G) A) args s 0 0 A) (F0 m 29 ls []) := by
    intro F
    induction F with
    | zero => intro n x3 x5 x7 x9 t s1 t1 hm; exact absurd hm (Nat.not_lt_zero _)
    | succ F ih_29 =>
      intro n x3 x5 x7 x9 t s1 t1 hm_29 hi0_29 hi1_29 hi2_29 hi3_29 hi4_29 H locs ls hR hS hl
      have hLb := hi1_29.bd
      refine lv_iload hC.x hC.b dX10_line_29 (lv_at hl 7 rfl) ?_
      refine lv_aload_n hC.x hC.b dX10_line_31 rfl (lv_at hl 0 rfl) ?_
      refine rget hC hK hR (ct_model G _ _) rfl uin_X10 29 (by decide) TF_X10_137 rfl dX10_line_32 ?_
      have rd_9 : (s1 35 29).toInt = (σ 35 29).toInt := congrArg Int32.toInt (show s1 35 29 = σ 35 29 from hi4_29.2 29 (by first | omega | (dsimp only; omega)))
      refine bi_ge (tgt := 177) (a := t.toInt) (b := (s1 35 29).toInt) hC.x hC.b rfl rfl dX10_line_35 (by decide) (fun c_10 => ?_) (fun c_10 => ?_)
      · skip
        refine lv_aload_n hC.x hC.b dX10_line_177 rfl (lv_at hl 0 rfl) ?_
        refine lv_lconst (v := 0) hC.x hC.b dX10_line_178 (by decide) ?_
        refine rputl hC hK hG hR hS (ct_model G _ _) rfl uin_X10 tyX10 tyX10_ok nmX10 45 (by decide) TF_X10_182 rfl rfl (Nat.le_of_ble_eq_true rfl) rfl (ct_model G _ _) dX10_line_179 (fun t_12 es_11 H locs hR hS => ?_)
        refine lv_aload_n hC.x hC.b dX10_line_182 rfl (lv_at hl 0 rfl) ?_
        refine lv_lconst (v := 1) hC.x hC.b dX10_line_183 (by decide) ?_
        refine rputl hC hK hG hR hS (ct_model G _ _) rfl uin_X10 tyX10 tyX10_ok nmX10 46 (by decide) TF_X10_186 rfl rfl (Nat.le_of_ble_eq_true rfl) rfl (ct_model G _ _) dX10_line_184 (fun t_14 es_13 H locs hR hS => ?_)
        refine lv_aload_n hC.x hC.b dX10_line_187 rfl (lv_at hl 0 rfl) ?_
        refine lv_aload_n hC.x hC.b dX10_line_188 rfl (lv_at hl 0 rfl) ?_
        refine rget hC hK hR (ct_model G _ _) rfl uin_X10 44 (by decide) TF_X10_176 rfl dX10_line_189 ?_
        refine lv_iconst (v := 1) hC.x hC.b dX10_line_192 (by decide) ?_
        refine bi_ne (tgt := 201) (a := (s1 35 44).toInt) (b := 1) hC.x hC.b rfl rfl dX10_line_193 (by decide) (fun c_15 => ?_) (fun c_15 => ?_)
        · skip
          refine lv_lconst (v := 0) hC.x hC.b dX10_line_201 (by decide) ?_
          refine rputl hC hK hG hR hS (ct_model G _ _) rfl uin_X10 tyX10 tyX10_ok nmX10 47 (by decide) TF_X10_189 rfl rfl (Nat.le_of_ble_eq_true rfl) rfl (ct_model G _ _) dX10_line_202 (fun t_17 es_16 H locs hR hS => ?_)
          refine lv_aload_n hC.x hC.b dX10_line_205 rfl (lv_at hl 0 rfl) ?_
          refine rget hC hK hR (ct_model G _ _) rfl uin_X10 44 (by decide) TF_X10_176 rfl dX10_line_206 ?_
          refine lv_iconst (v := 2) hC.x hC.b dX10_line_209 (by decide) ?_
          refine bi_ge (tgt := 214) (a := (s1 35 44).toInt) (b := 2) hC.x hC.b rfl rfl dX10_line_210 (by decide) (fun c_18 => ?_) (fun c_18 => ?_)
          · skip
            have hV := LSq.pos hi1_29 (by omega) (by omega)
            refine lv_aload_n hC.x hC.b dX10_line_214 rfl (lv_at hl 0 rfl) ?_
            refine lv_aload_n hC.x hC.b dX10_line_215 rfl (lv_at hl 0 rfl) ?_
            refine rget hC hK hR (ct_model G _ _) rfl uin_X10 44 (by decide) TF_X10_176 rfl dX10_line_216 ?_
            refine lv_i2l hC.x hC.b dX10_line_219 rfl ?_
            refine lv_lload hC.x hC.b dX10_line_220 (lv_at hl 6 rfl) ?_
            refine lv_lmul hC.x hC.b dX10_line_222 ?_
            refine lv_lload_n hC.x hC.b dX10_line_223 rfl (lv_at hl 3 rfl) ?_
            refine lv_lload hC.x hC.b dX10_line_224 (lv_at hl 4 rfl) ?_
            refine lv_lmul hC.x hC.b dX10_line_226 ?_
            refine lv_lsub hC.x hC.b dX10_line_227 ?_
            refine rputl hC hK hG hR hS (ct_model G _ _) rfl uin_X10 tyX10 tyX10_ok nmX10 45 (by decide) TF_X10_182 rfl rfl (Nat.le_of_ble_eq_true rfl) rfl (ct_model G _ _) dX10_line_228 (fun t_20 es_19 H locs hR hS => ?_)
            refine lv_aload_n hC.x hC.b dX10_line_231 rfl (lv_at hl 0 rfl) ?_
            refine lv_aload_n hC.x hC.b dX10_line_232 rfl (lv_at hl 0 rfl) ?_
            refine rget hC hK hR (ct_model G _ _) rfl uin_X10 44 (by decide) TF_X10_176 rfl dX10_line_233 ?_
            refine lv_i2l hC.x hC.b dX10_line_236 rfl ?_
            refine lv_lload hC.x hC.b dX10_line_237 (lv_at hl 5 rfl) ?_
            refine lv_lmul hC.x hC.b dX10_line_239 ?_
            have pr_21 : ((s1 35 44).toInt64 * x7).toInt = ((s1 35 44).toInt * x7.toInt) := mulL (i2lI rfl) rfl (by omega) (by omega)
            refine lv_lload_n hC.x hC.b dX10_line_240 rfl (lv_at hl 3 rfl) ?_
            refine lv_lload_n hC.x hC.b dX10_line_241 rfl (lv_at hl 3 rfl) ?_
            refine lv_lmul hC.x hC.b dX10_line_242 ?_
            have pr_22 : (x3 * x3).toInt = (x3.toInt * x3.toInt) := mulL rfl rfl (by omega) (by omega)
            refine lv_lsub hC.x hC.b dX10_line_243 ?_
            have pr_23 : (((s1 35 44).toInt64 * x7) - (x3 * x3)).toInt = (((s1 35 44).toInt * x7.toInt) - (x3.toInt * x3.toInt)) := subL pr_21 pr_22 (by omega) (by omega)
            refine rputl hC hK hG hR hS (ct_model G _ _) rfl uin_X10 tyX10 tyX10_ok nmX10 46 (by decide) TF_X10_186 rfl rfl (Nat.le_of_ble_eq_true rfl) rfl (ct_model G _ _) dX10_line_244 (fun t_25 es_24 H locs hR hS => ?_)
            refine lv_aload_n hC.x hC.b dX10_line_247 rfl (lv_at hl 0 rfl) ?_
            refine lv_lload hC.x hC.b dX10_line_248 (lv_at hl 4 rfl) ?_
            refine lv_aload_n hC.x hC.b dX10_line_250 rfl (lv_at hl 0 rfl) ?_
            refine rget hC hK hR (ct_model G _ _) rfl uin_X10 46 (by decide) TF_X10_186 rfl dX10_line_251 ?_
            rw [show t_25 35 46 = (((s1 35 44).toInt64 * x7) - (x3 * x3)) from (by rw [es_24]; exact up2_s)]
            refine lv_lmul hC.x hC.b dX10_line_254 ?_
            refine lv_aload_n hC.x hC.b dX10_line_255 rfl (lv_at hl 0 rfl) ?_
            refine rget hC hK hR (ct_model G _ _) rfl uin_X10 45 (by decide) TF_X10_182 rfl dX10_line_256 ?_
            refine lv_lload_n hC.x hC.b dX10_line_259 rfl (lv_at hl 3 rfl) ?_
            refine lv_lmul hC.x hC.b dX10_line_260 ?_
            refine lv_lsub hC.x hC.b dX10_line_261 ?_
            refine lv_aload_n hC.x hC.b dX10_line_262 rfl (lv_at hl 0 rfl) ?_
            refine rget hC hK hR (ct_model G _ _) rfl uin_X10 44 (by decide) TF_X10_176 rfl dX10_line_263 ?_
            refine lv_i2l hC.x hC.b dX10_line_266 rfl ?_
            refine lv_aload_n hC.x hC.b dX10_line_267 rfl (lv_at hl 0 rfl) ?_
            refine rget hC hK hR (ct_model G _ _) rfl uin_X10 46 (by decide) TF_X10_186 rfl dX10_line_268 ?_
            rw [show t_25 35 46 = (((s1 35 44).toInt64 * x7) - (x3 * x3)) from (by rw [es_24]; exact up2_s)]
            have hnV := mulb (n := (s1 35 44).toInt) (V := (s1 35 44).toInt * x7.toInt - x3.toInt * x3.toInt) (by omega) (by omega)
            refine lv_lmul hC.x hC.b dX10_line_271 ?_
            have pr_26 : ((s1 35 44).toInt64 * (((s1 35 44).toInt64 * x7) - (x3 * x3))).toInt = ((s1 35 44).toInt * (((s1 35 44).toInt * x7.toInt) - (x3.toInt * x3.toInt))) := mulL (i2lI rfl) pr_23 (by omega) (by omega)
            have av_27 : ((s1 35 44).toInt64 * (((s1 35 44).toInt64 * x7) - (x3 * x3))).toInt = ((s1 35 44).toInt * (((s1 35 44).toInt * x7.toInt) - (x3.toInt * x3.toInt))) := pr_26
            refine golp (runS (As := [.long ((x5 * (((s1 35 44).toInt64 * x7) - (x3 * x3))) - ((t_25 35 45) * x3)), .long ((s1 35 44).toInt64 * (((s1 35 44).toInt64 * x7) - (x3 * x3)))]) (rest := [.ref (G.2.1 35)]) hC hK hR hl.1 (c5_X10_downwards l hG s1 t_25 ((x5 * (((s1 35 44).toInt64 * x7) - (x3 * x3))) - ((t_25 35 45) * x3)) ((s1 35 44).toInt64 * (((s1 35 44).toInt64 * x7) - (x3 * x3))) (by omega)) (call_b hC.ts TC_X10_downwards TN_X10 TM_X10_192 hd_X10_downwards ⟨Nat.le_of_ble_eq_true rfl, Nat.le_of_ble_eq_true rfl⟩) TT_X10_downwards rfl rfl (Nat.le_of_ble_eq_true rfl) dX10_line_272 ⟨Nat.le_of_ble_eq_true rfl, Nat.le_of_ble_eq_true rfl⟩) hS (fun v_28 H locs w_29 hR hS => ?_)
            have f_30 := w_29
            refine rputl hC hK hG hR hS (ct_model G _ _) rfl uin_X10 tyX10 tyX10_ok nmX10 47 (by decide) TF_X10_189 rfl rfl (Nat.le_of_ble_eq_true rfl) rfl (ct_model G _ _) dX10_line_275 (fun t_32 es_31 H locs hR hS => ?_)
            exact retv hC hK hR hS (⟨by exact hi4_29, by (show 0 < (t_32 35 46).toInt ∧ (t_32 35 46).toInt < 32768); subst es_31; subst es_24; subst es_19; subst es_16; subst es_13; subst es_11; rw [up2_n (show (46:Nat) ≠ 47 by decide), up2_s]; first | decide | omega, by (try dsimp only); (have e9 : n = (σ 37 q).toInt.toNat := by omega); subst e9; exact lnp_b (a45 := t_25 35 45) (v := v_28) hi3_29 (LN_lb (fF_bd (pX_R hxb)) (by omega) (by omega)) (by omega) (by rw [es_31, up2_n (by decide), es_24, up2_n (by decide), es_19]; exact up2_s) (by rw [es_31, up2_n (by decide), es_24]; exact up2_s) (by rw [es_31]; exact up2_s) (by assumption) (by rw [es_24, up2_n (by decide), es_19]; exact up2_s)⟩) dX10_line_278
          · skip
            exact retv hC hK hR hS (⟨by exact hi4_29, by (show 0 < (t_17 35 46).toInt ∧ (t_17 35 46).toInt < 32768); subst es_16; subst es_13; subst es_11; rw [up2_n (show (46:Nat) ≠ 47 by decide), up2_s]; first | decide | omega, by (try dsimp only); (have e9 : n = (σ 37 q).toInt.toNat := by omega); subst e9; exact lnp_s hi3_29 (LN_lb (fF_bd (pX_R hxb)) (by omega) (by omega)) (by omega) (by rw [es_16, up2_n (by decide), es_13, up2_n (by decide), es_11]; exact up2_s) (by rw [es_16, up2_n (by decide), es_13]; exact up2_s) (fun h9 => by first | (rw [es_16]; exact up2_s) | (exfalso; omega))⟩) dX10_line_213
        · skip
          refine lv_lload hC.x hC.b dX10_line_196 (lv_at hl 4 rfl) ?_
          refine lv_goto (tgt := 202) hC.x hC.b dX10_line_198 (by decide) ?_
          refine rputl hC hK hG hR hS (ct_model G _ _) rfl uin_X10 tyX10 tyX10_ok nmX10 47 (by decide) TF_X10_189 rfl rfl (Nat.le_of_ble_eq_true rfl) rfl (ct_model G _ _) dX10_line_202 (fun t_34 es_33 H locs hR hS => ?_)
          refine lv_aload_n hC.x hC.b dX10_line_205 rfl (lv_at hl 0 rfl) ?_
          refine rget hC hK hR (ct_model G _ _) rfl uin_X10 44 (by decide) TF_X10_176 rfl dX10_line_206 ?_
          refine lv_iconst (v := 2) hC.x hC.b dX10_line_209 (by decide) ?_
          refine bi_ge (tgt := 214) (a := (s1 35 44).toInt) (b := 2) hC.x hC.b rfl rfl dX10_line_210 (by decide) (fun c_35 => ?_) (fun c_35 => ?_)
          · skip
            have hV := LSq.pos hi1_29 (by omega) (by omega)
            refine lv_aload_n hC.x hC.b dX10_line_214 rfl (lv_at hl 0 rfl) ?_
            refine lv_aload_n hC.x hC.b dX10_line_215 rfl (lv_at hl 0 rfl) ?_
            refine rget hC hK hR (ct_model G _ _) rfl uin_X10 44 (by decide) TF_X10_176 rfl dX10_line_216 ?_
            refine lv_i2l hC.x hC.b dX10_line_219 rfl ?_
            refine lv_lload hC.x hC.b dX10_line_220 (lv_at hl 6 rfl) ?_
            refine lv_lmul hC.x hC.b dX10_line_222 ?_
            refine lv_lload_n hC.x hC.b dX10_line_223 rfl (lv_at hl 3 rfl) ?_
            refine lv_lload hC.x hC.b dX10_line_224 (lv_at hl 4 rfl) ?_
            refine lv_lmul hC.x hC.b dX10_line_226 ?_
            refine lv_lsub hC.x hC.b dX10_line_227 ?_
            refine rputl hC hK hG hR hS (ct_model G _ _) rfl uin_X10 tyX10 tyX10_ok nmX10 45 (by decide) TF_X10_182 rfl rfl (Nat.le_of_ble_eq_true rfl) rfl (ct_model G _ _) dX10_line_228 (fun t_37 es_36 H locs hR hS => ?_)
            refine lv_aload_n hC.x hC.b dX10_line_231 rfl (lv_at hl 0 rfl) ?_
            refine lv_aload_n hC.x hC.b dX10_line_232 rfl (lv_at hl 0 rfl) ?_
            refine rget hC hK hR (ct_model G _ _) rfl uin_X10 44 (by decide) TF_X10_176 rfl dX10_line_233 ?_
            refine lv_i2l hC.x hC.b dX10_line_236 rfl ?_
            refine lv_lload hC.x hC.b dX10_line_237 (lv_at hl 5 rfl) ?_
            refine lv_lmul hC.x hC.b dX10_line_239 ?_
            have pr_38 : ((s1 35 44).toInt64 * x7).toInt = ((s1 35 44).toInt * x7.toInt) := mulL (i2lI rfl) rfl (by omega) (by omega)
            refine lv_lload_n hC.x hC.b dX10_line_240 rfl (lv_at hl 3 rfl) ?_
            refine lv_lload_n hC.x hC.b dX10_line_241 rfl (lv_at hl 3 rfl) ?_
            refine lv_lmul hC.x hC.b dX10_line_242 ?_
            have pr_39 : (x3 * x3).toInt = (x3.toInt * x3.toInt) := mulL rfl rfl (by omega) (by omega)
            refine lv_lsub hC.x hC.b dX10_line_243 ?_
            have pr_40 : (((s1 35 44).toInt64 * x7) - (x3 * x3)).toInt = (((s1 35 44).toInt * x7.toInt) - (x3.toInt * x3.toInt)) := subL pr_38 pr_39 (by omega) (by omega)
            refine rputl hC hK hG hR hS (ct_model G _ _) rfl uin_X10 tyX10 tyX10_ok nmX10 46 (by decide) TF_X10_186 rfl rfl (Nat.le_of_ble_eq_true rfl) rfl (ct_model G _ _) dX10_line_244 (fun t_42 es_41 H locs hR hS => ?_)
            refine lv_aload_n hC.x hC.b dX10_line_247 rfl (lv_at hl 0 rfl) ?_
            refine lv_lload hC.x hC.b dX10_line_248 (lv_at hl 4 rfl) ?_
            refine lv_aload_n hC.x hC.b dX10_line_250 rfl (lv_at hl 0 rfl) ?_
            refine rget hC hK hR (ct_model G _ _) rfl uin_X10 46 (by decide) TF_X10_186 rfl dX10_line_251 ?_
            rw [show t_42 35 46 = (((s1 35 44).toInt64 * x7) - (x3 * x3)) from (by rw [es_41]; exact up2_s)]
            refine lv_lmul hC.x hC.b dX10_line_254 ?_
            refine lv_aload_n hC.x hC.b dX10_line_255 rfl (lv_at hl 0 rfl) ?_
            refine rget hC hK hR (ct_model G _ _) rfl uin_X10 45 (by decide) TF_X10_182 rfl dX10_line_256 ?_
            refine lv_lload_n hC.x hC.b dX10_line_259 rfl (lv_at hl 3 rfl) ?_
            refine lv_lmul hC.x hC.b dX10_line_260 ?_
            refine lv_lsub hC.x hC.b dX10_line_261 ?_
            refine lv_aload_n hC.x hC.b dX10_line_262 rfl (lv_at hl 0 rfl) ?_
            refine rget hC hK hR (ct_model G _ _) rfl uin_X10 44 (by decide) TF_X10_176 rfl dX10_line_263 ?_
            refine lv_i2l hC.x hC.b dX10_line_266 rfl ?_
            refine lv_aload_n hC.x hC.b dX10_line_267 rfl (lv_at hl 0 rfl) ?_
            refine rget hC hK hR (ct_model G _ _) rfl uin_X10 46 (by decide) TF_X10_186 rfl dX10_line_268 ?_
            rw [show t_42 35 46 = (((s1 35 44).toInt64 * x7) - (x3 * x3)) from (by rw [es_41]; exact up2_s)]
            have hnV := mulb (n := (s1 35 44).toInt) (V := (s1 35 44).toInt * x7.toInt - x3.toInt * x3.toInt) (by omega) (by omega)
            refine lv_lmul hC.x hC.b dX10_line_271 ?_
            have pr_43 : ((s1 35 44).toInt64 * (((s1 35 44).toInt64 * x7) - (x3 * x3))).toInt = ((s1 35 44).toInt * (((s1 35 44).toInt * x7.toInt) - (x3.toInt * x3.toInt))) := mulL (i2lI rfl) pr_40 (by omega) (by omega)
            have av_44 : ((s1 35 44).toInt64 * (((s1 35 44).toInt64 * x7) - (x3 * x3))).toInt = ((s1 35 44).toInt * (((s1 35 44).toInt * x7.toInt) - (x3.toInt * x3.toInt))) := pr_43
            refine golp (runS (As := [.long ((x5 * (((s1 35 44).toInt64 * x7) - (x3 * x3))) - ((t_42 35 45) * x3)), .long ((s1 35 44).toInt64 * (((s1 35 44).toInt64 * x7) - (x3 * x3)))]) (rest := [.ref (G.2.1 35)]) hC hK hR hl.1 (c5_X10_downwards l hG s1 t_42 ((x5 * (((s1 35 44).toInt64 * x7) - (x3 * x3))) - ((t_42 35 45) * x3)) ((s1 35 44).toInt64 * (((s1 35 44).toInt64 * x7) - (x3 * x3))) (by omega)) (call_b hC.ts TC_X10_downwards TN_X10 TM_X10_192 hd_X10_downwards ⟨Nat.le_of_ble_eq_true rfl, Nat.le_of_ble_eq_true rfl⟩) TT_X10_downwards rfl rfl (Nat.le_of_ble_eq_true rfl) dX10_line_272 ⟨Nat.le_of_ble_eq_true rfl, Nat.le_of_ble_eq_true rfl⟩) hS (fun v_45 H locs w_46 hR hS => ?_)
            have f_47 := w_46
            refine rputl hC hK hG hR hS (ct_model G _ _) rfl uin_X10 tyX10 tyX10_ok nmX10 47 (by decide) TF_X10_189 rfl rfl (Nat.le_of_ble_eq_true rfl) rfl (ct_model G _ _) dX10_line_275 (fun t_49 es_48 H locs hR hS => ?_)
            exact retv hC hK hR hS (⟨by exact hi4_29, by (show 0 < (t_49 35 46).toInt ∧ (t_49 35 46).toInt < 32768); subst es_48; subst es_41; subst es_36; subst es_33; subst es_13; subst es_11; rw [up2_n (show (46:Nat) ≠ 47 by decide), up2_s]; first | decide | omega, by (try dsimp only); (have e9 : n = (σ 37 q).toInt.toNat := by omega); subst e9; exact lnp_b (a45 := t_42 35 45) (v := v_45) hi3_29 (LN_lb (fF_bd (pX_R hxb)) (by omega) (by omega)) (by omega) (by rw [es_48, up2_n (by decide), es_41, up2_n (by decide), es_36]; exact up2_s) (by rw [es_48, up2_n (by decide), es_41]; exact up2_s) (by rw [es_48]; exact up2_s) (by assumption) (by rw [es_41, up2_n (by decide), es_36]; exact up2_s)⟩) dX10_line_278
          · skip
            exact retv hC hK hR hS (⟨by exact hi4_29, by (show 0 < (t_34 35 46).toInt ∧ (t_34 35 46).toInt < 32768); subst es_33; subst es_13; subst es_11; rw [up2_n (show (46:Nat) ≠ 47 by decide), up2_s]; first | decide | omega, by (try dsimp only); (have e9 : n = (σ 37 q).toInt.toNat := by omega); subst e9; exact lnp_s hi3_29 (LN_lb (fF_bd (pX_R hxb)) (by omega) (by omega)) (by omega) (by rw [es_33, up2_n (by decide), es_13, up2_n (by decide), es_11]; exact up2_s) (by rw [es_33, up2_n (by decide), es_13]; exact up2_s) (fun h9 => by first | (rw [es_33]; exact up2_s) | (exfalso; omega))⟩) dX10_line_213
      · skip
        refine lv_iload_n hC.x hC.b dX10_line_38 rfl (lv_at hl 2 rfl) ?_
        refine bz_eq (tgt := 55) (a := ga.toInt) (b := 0) hC.x hC.b rfl rfl dX10_line_39 (by decide) (fun c_50 => ?_) (fun c_50 => ?_)
        · skip
          refine lv_aload_n hC.x hC.b dX10_line_55 rfl (lv_at hl 0 rfl) ?_
          refine lv_iload hC.x hC.b dX10_line_56 (lv_at hl 7 rfl) ?_
          refine lv_iload_n hC.x hC.b dX10_line_58 rfl (lv_at hl 1 rfl) ?_
          have rd_51 : (s1 35 29).toInt = (σ 35 29).toInt := congrArg Int32.toInt (show s1 35 29 = σ 35 29 from hi4_29.2 29 (by first | omega | (dsimp only; omega)))
          refine goip (runV (As := [.int t, .int pl]) (rest := []) hC hK hR hl.1 (c5_X10_isX l hG s1 t1 t t.toInt.toNat rfl pl q (by first | rfl | (rw [show pl.toInt = pl.toInt from rfl]; done) | (rw [show pl.toInt = pl.toInt from rfl]; exact hp_q)) (by first | assumption | omega) (by omega)) (call_b hC.ts TC_X10_isX TN_X10 TM_X10_172 hd_X10_isX ⟨Nat.le_of_ble_eq_true rfl, Nat.le_of_ble_eq_true rfl⟩) TI_X10_isX TS_X10_isX (ct_model G _ _) rfl rfl rfl (Nat.le_of_ble_eq_true rfl) dX10_line_59 ⟨Nat.le_of_ble_eq_true rfl, Nat.le_of_ble_eq_true rfl⟩) hS (fun v_52 H locs w_53 hR hS => ?_)
          rcases w_53 with ⟨rfl, f_54, f_55, f_56⟩ | ⟨rfl, f_57⟩
          · skip
            refine bz_ne (tgt := 68) (a := 1) (b := 0) hC.x hC.b rfl rfl dX10_line_62 (by decide) (fun _ => ?_) (fun c_58 => absurd c_58 (by decide))
            refine lv_iload hC.x hC.b dX10_line_68 (lv_at hl 7 rfl) ?_
            refine lv_aload_n hC.x hC.b dX10_line_70 rfl (lv_at hl 0 rfl) ?_
            refine rget hC hK hR (ct_model G _ _) rfl uin_X10 29 (by decide) TF_X10_137 rfl dX10_line_71 ?_
            have rd_59 : (s1 35 29).toInt = (σ 35 29).toInt := congrArg Int32.toInt (show s1 35 29 = σ 35 29 from hi4_29.2 29 (by first | omega | (dsimp only; omega)))
            refine lv_isub hC.x hC.b dX10_line_74 ?_
            have pr_60 : (t - (s1 35 29)).toInt = (t.toInt - (s1 35 29).toInt) := subI rfl rfl (by omega) (by omega)
            refine lv_i2l hC.x hC.b dX10_line_75 rfl ?_
            refine lv_topl (fun x_61 ex_62 => ?_)
            have pr_63 : x_61.toInt = (t.toInt - (s1 35 29).toInt) := by rw [ex_62]; exact (i2lI pr_60)
            refine lv_lstore (lv' := [(12, .long x_61), (0, .ref (G.2.1 35)), (1, .int pl), (2, .int ga), (3, .long x3), (5, .long x5), (7, .long x7), (9, .long x9), (11, .int t)]) hC.x hC.b dX10_line_76 hl (by decide) rfl (fun ls hl => ?_)
            refine lv_iload_n hC.x hC.b dX10_line_78 rfl (lv_at hl 3 rfl) ?_
            refine bz_eq (tgt := 114) (a := ga.toInt) (b := 0) hC.x hC.b rfl rfl dX10_line_79 (by decide) (fun c_64 => ?_) (fun c_64 => ?_)
            · skip
              refine lv_aload_n hC.x hC.b dX10_line_114 rfl (lv_at hl 1 rfl) ?_
              refine rget hC hK hR (ct_model G _ _) rfl uin_X10 18 (by decide) TF_X10_65 rfl dX10_line_115 ?_
              refine lv_aload_n hC.x hC.b dX10_line_118 rfl (lv_at hl 1 rfl) ?_
              refine lv_iload hC.x hC.b dX10_line_119 (lv_at hl 8 rfl) ?_
              refine lv_iload_n hC.x hC.b dX10_line_121 rfl (lv_at hl 2 rfl) ?_
              refine goip (runV (As := [.int t, .int pl]) (rest := [.ref (G.2.1 54)]) hC hK hR hl.1 (c_X10_at l hG s1 t1 t t.toInt.toNat rfl pl q (by first | rfl | (rw [show pl.toInt = pl.toInt from rfl]; done) | (rw [show pl.toInt = pl.toInt from rfl]; exact hp_q)) (by omega) (by omega)) (call_b hC.ts TC_X10_at TN_X10 TM_X10_140 hd_X10_at ⟨Nat.le_of_ble_eq_true rfl, Nat.le_of_ble_eq_true rfl⟩) TI_X10_at TS_X10_at (ct_model G _ _) rfl rfl rfl (Nat.le_of_ble_eq_true rfl) dX10_line_122 ⟨Nat.le_of_ble_eq_true rfl, Nat.le_of_ble_eq_true rfl⟩) hS (fun v_65 H locs w_66 hR hS => ?_)
              subst w_66
              refine ald hC hK hR (ct_m_xs G _ _) (nI_T _ (by omega)) (by omega) (by omega) (Int.toNat_natCast _) dX10_line_125 ?_
              have rd_67 : (s1 54 (24 * t.toInt.toNat + q)).toInt = (σ 54 (24 * t.toInt.toNat + q)).toInt := congrArg Int32.toInt (show s1 54 (24 * t.toInt.toNat + q) = σ 54 (24 * t.toInt.toNat + q) from congrFun (hi4_29.1 54 (by omega) (by first | omega | (dsimp only; omega) | (intro h; exact h))) (24 * t.toInt.toNat + q))
              refine lv_i2l hC.x hC.b dX10_line_126 rfl ?_
              refine lv_topl (fun x_68 ex_69 => ?_)
              have pr_70 : x_68.toInt = (s1 54 (24 * t.toInt.toNat + q)).toInt := by rw [ex_69]; exact (i2lI rfl)
              refine lv_lstore (lv' := [(14, .long x_68), (12, .long x_61), (0, .ref (G.2.1 35)), (1, .int pl), (2, .int ga), (3, .long x3), (5, .long x5), (7, .long x7), (9, .long x9), (11, .int t)]) hC.x hC.b dX10_line_127 hl (by decide) rfl (fun ls hl => ?_)
              refine lv_aload_n hC.x hC.b dX10_line_129 rfl (lv_at hl 2 rfl) ?_
              refine lv_dup hC.x hC.b dX10_line_130 rfl ?_
              refine rget hC hK hR (ct_model G _ _) rfl uin_X10 44 (by decide) TF_X10_176 rfl dX10_line_131 ?_
              refine lv_iconst (v := 1) hC.x hC.b dX10_line_134 (by decide) ?_
              refine lv_iadd hC.x hC.b dX10_line_135 ?_
              have pr_71 : ((s1 35 44) + (1 : Int32)).toInt = ((s1 35 44).toInt + 1) := addI rfl rfl (by omega) (by omega)
              refine rputi hC hK hG hR hS (ct_model G _ _) rfl uin_X10 tyX10 tyX10_ok nmX10 44 (by decide) TF_X10_176 rfl (Or.inl rfl) (Nat.le_of_ble_eq_true rfl) rfl (ct_model G _ _) dX10_line_136 (fun s_73 es_72 H locs hR hS => ?_)
              refine lv_lload_n hC.x hC.b dX10_line_139 rfl (lv_at hl 5 rfl) ?_
              refine lv_lload hC.x hC.b dX10_line_140 (lv_at hl 1 rfl) ?_
              refine lv_ladd hC.x hC.b dX10_line_142 ?_
              have pr_74 : (x3 + x_61).toInt = (x3.toInt + (t.toInt - (s1 35 29).toInt)) := addL rfl pr_63 (by omega) (by omega)
              refine lv_lstore_n (lv' := [(3, .long (x3 + x_61)), (14, .long x_68), (12, .long x_61), (0, .ref (G.2.1 35)), (1, .int pl), (2, .int ga), (5, .long x5), (7, .long x7), (9, .long x9), (11, .int t)]) hC.x hC.b dX10_line_143 rfl hl (by decide) rfl (fun ls hl => ?_)
              refine lv_lload hC.x hC.b dX10_line_144 (lv_at hl 6 rfl) ?_
              refine lv_lload hC.x hC.b dX10_line_146 (lv_at hl 1 rfl) ?_
              refine lv_ladd hC.x hC.b dX10_line_148 ?_
              refine lv_lstore (lv' := [(5, .long (x5 + x_68)), (3, .long (x3 + x_61)), (14, .long x_68), (12, .long x_61), (0, .ref (G.2.1 35)), (1, .int pl), (2, .int ga), (7, .long x7), (9, .long x9), (11, .int t)]) hC.x hC.b dX10_line_149 hl (by decide) rfl (fun ls hl => ?_)
              refine lv_lload hC.x hC.b dX10_line_151 (lv_at hl 7 rfl) ?_
              refine lv_lload hC.x hC.b dX10_line_153 (lv_at hl 3 rfl) ?_
              refine lv_lload hC.x hC.b dX10_line_155 (lv_at hl 3 rfl) ?_
              have htt := sqle (m := (t.toInt - (s1 35 29).toInt)) (B := 12) (by omega) (by omega)
              refine lv_lmul hC.x hC.b dX10_line_157 ?_
              have pr_75 : (x_61 * x_61).toInt = ((t.toInt - (s1 35 29).toInt) * (t.toInt - (s1 35 29).toInt)) := mulL pr_63 pr_63 (by omega) (by omega)
              refine lv_ladd hC.x hC.b dX10_line_158 ?_
              have pr_76 : (x7 + (x_61 * x_61)).toInt = (x7.toInt + ((t.toInt - (s1 35 29).toInt) * (t.toInt - (s1 35 29).toInt))) := addL rfl pr_75 (by omega) (by omega)
              refine lv_lstore (lv' := [(7, .long (x7 + (x_61 * x_61))), (5, .long (x5 + x_68)), (3, .long (x3 + x_61)), (14, .long x_68), (12, .long x_61), (0, .ref (G.2.1 35)), (1, .int pl), (2, .int ga), (9, .long x9), (11, .int t)]) hC.x hC.b dX10_line_159 hl (by decide) rfl (fun ls hl => ?_)
              refine lv_lload hC.x hC.b dX10_line_161 (lv_at hl 8 rfl) ?_
              refine lv_lload hC.x hC.b dX10_line_163 (lv_at hl 4 rfl) ?_
              refine lv_lload hC.x hC.b dX10_line_165 (lv_at hl 3 rfl) ?_
              refine lv_lmul hC.x hC.b dX10_line_167 ?_
              refine lv_ladd hC.x hC.b dX10_line_168 ?_
              refine lv_lstore (lv' := [(9, .long (x9 + (x_61 * x_68))), (7, .long (x7 + (x_61 * x_61))), (5, .long (x5 + x_68)), (3, .long (x3 + x_61)), (14, .long x_68), (12, .long x_61), (0, .ref (G.2.1 35)), (1, .int pl), (2, .int ga), (11, .int t)]) hC.x hC.b dX10_line_169 hl (by decide) rfl (fun ls hl => ?_)
              obtain ⟨x_77, ex_78⟩ : ∃ y : Int32, y = t + 1 := ⟨_, rfl⟩
              have pr_79 : x_77.toInt = t.toInt + (1) := by rw [ex_78]; exact addI rfl rfl (by omega) (by omega)
              refine lv_iinc (v := x_77) (lv' := [(11, .int x_77), (9, .long (x9 + (x_61 * x_68))), (7, .long (x7 + (x_61 * x_61))), (5, .long (x5 + x_68)), (3, .long (x3 + x_61)), (14, .long x_68), (12, .long x_61), (0, .ref (G.2.1 35)), (1, .int pl), (2, .int ga)]) hC.x hC.b dX10_line_171 hl (k := 9) rfl ex_78.symm (by decide) rfl (fun ls hl => ?_)
              refine lv_goto (tgt := 29) hC.x hC.b dX10_line_174 (by decide) ?_
              have rd_80 : (s_73 35 44).toInt = ((s1 35 44) + (1 : Int32)).toInt := congrArg Int32.toInt (show s_73 35 44 = ((s1 35 44) + (1 : Int32)) from (by rw [es_72]; exact up2_s))
              exact ih_29 (n + 1) (x3 + x_61) (x5 + x_68) (x7 + (x_61 * x_61)) (x9 + (x_61 * x_68)) x_77 s_73 t1 (by omega) (by first | omega | assumption) (by exact LSq.ad hi1_29 (t := (t.toInt - (s1 35 29).toInt)) (by omega) (by omega) (by omega) (by omega) (by omega) (by omega) (by omega)) (by first | omega | assumption) (by exact ln_ad hi3_29 hi4_29 (by subst es_72; simp [up2]) hi2_29.1 (by omega) (by omega) (by assumption) (by first | exact fF_g hxb hi4_29 rfl (by omega) hi2_29.1 (by assumption) (by assumption) | exact fF_x hxb hi4_29 (by omega) hi2_29.1 (by assumption) (by assumption) | (exfalso; omega))) (by rw [es_72]; exact MRel.upm (hi4_29) (by first | omega | (dsimp only; omega))) _ _ _ hR hS (lv_sub hl [7, 8, 9, 4, 3, 2, 1, 0] rfl)
            · skip
              refine lv_aload_n hC.x hC.b dX10_line_82 rfl (lv_at hl 1 rfl) ?_
              refine rget hC hK hR (ct_model G _ _) rfl uin_X10 18 (by decide) TF_X10_65 rfl dX10_line_83 ?_
              refine lv_aload_n hC.x hC.b dX10_line_86 rfl (lv_at hl 1 rfl) ?_
              refine lv_iload hC.x hC.b dX10_line_87 (lv_at hl 8 rfl) ?_
              refine lv_iload_n hC.x hC.b dX10_line_89 rfl (lv_at hl 2 rfl) ?_
              refine goip (runV (As := [.int t, .int pl]) (rest := [.ref (G.2.1 54)]) hC hK hR hl.1 (c_X10_at l hG s1 t1 t t.toInt.toNat rfl pl q (by first | rfl | (rw [show pl.toInt = pl.toInt from rfl]; done) | (rw [show pl.toInt = pl.toInt from rfl]; exact hp_q)) (by omega) (by omega)) (call_b hC.ts TC_X10_at TN_X10 TM_X10_140 hd_X10_at ⟨Nat.le_of_ble_eq_true rfl, Nat.le_of_ble_eq_true rfl⟩) TI_X10_at TS_X10_at (ct_model G _ _) rfl rfl rfl (Nat.le_of_ble_eq_true rfl) dX10_line_90 ⟨Nat.le_of_ble_eq_true rfl, Nat.le_of_ble_eq_true rfl⟩) hS (fun v_81 H locs w_82 hR hS => ?_)
              subst w_82
              refine ald hC hK hR (ct_m_xs G _ _) (nI_T _ (by omega)) (by omega) (by omega) (Int.toNat_natCast _) dX10_line_93 ?_
              have rd_83 : (s1 54 (24 * t.toInt.toNat + q)).toInt = (σ 54 (24 * t.toInt.toNat + q)).toInt := congrArg Int32.toInt (show s1 54 (24 * t.toInt.toNat + q) = σ 54 (24 * t.toInt.toNat + q) from congrFun (hi4_29.1 54 (by omega) (by first | omega | (dsimp only; omega) | (intro h; exact h))) (24 * t.toInt.toNat + q))
              refine lv_i2l hC.x hC.b dX10_line_94 rfl ?_
              refine lv_aload_n hC.x hC.b dX10_line_95 rfl (lv_at hl 1 rfl) ?_
              refine rget hC hK hR (ct_model G _ _) rfl uin_X10 18 (by decide) TF_X10_65 rfl dX10_line_96 ?_
              refine lv_aload_n hC.x hC.b dX10_line_99 rfl (lv_at hl 1 rfl) ?_
              refine lv_iload hC.x hC.b dX10_line_100 (lv_at hl 8 rfl) ?_
              refine lv_iconst (v := 1) hC.x hC.b dX10_line_102 (by decide) ?_
              refine lv_isub hC.x hC.b dX10_line_103 ?_
              have pr_84 : (t - (1 : Int32)).toInt = (t.toInt - 1) := subI rfl rfl (by omega) (by omega)
              refine lv_iload_n hC.x hC.b dX10_line_104 rfl (lv_at hl 2 rfl) ?_
              have av_85 : (t - (1 : Int32)).toInt = (t.toInt - 1) := pr_84
              refine goip (runV (As := [.int (t - (1 : Int32)), .int pl]) (rest := [.ref (G.2.1 54), .long ((s1 54 (24 * t.toInt.toNat + q)).toInt64)]) hC hK hR hl.1 (c_X10_at l hG s1 t1 (t - (1 : Int32)) ((t.toInt - 1).toNat) (by first | rfl | (rw [show (t - (1 : Int32)).toInt = (t.toInt - 1) from pr_84]; done) | (rw [show (t - (1 : Int32)).toInt = (t.toInt - 1) from pr_84]; exact rfl)) pl q (by first | rfl | (rw [show pl.toInt = pl.toInt from rfl]; done) | (rw [show pl.toInt = pl.toInt from rfl]; exact hp_q)) (by omega) (by omega)) (call_b hC.ts TC_X10_at TN_X10 TM_X10_140 hd_X10_at ⟨Nat.le_of_ble_eq_true rfl, Nat.le_of_ble_eq_true rfl⟩) TI_X10_at TS_X10_at (ct_model G _ _) rfl rfl rfl (Nat.le_of_ble_eq_true rfl) dX10_line_105 ⟨Nat.le_of_ble_eq_true rfl, Nat.le_of_ble_eq_true rfl⟩) hS (fun v_86 H locs w_87 hR hS => ?_)
              subst w_87
              refine ald hC hK hR (ct_m_xs G _ _) (nI_T _ (by omega)) (by omega) (by omega) (Int.toNat_natCast _) dX10_line_108 ?_
              have rd_88 : (s1 54 (24 * ((t.toInt - 1).toNat) + q)).toInt = (σ 54 (24 * ((t.toInt - 1).toNat) + q)).toInt := congrArg Int32.toInt (show s1 54 (24 * ((t.toInt - 1).toNat) + q) = σ 54 (24 * ((t.toInt - 1).toNat) + q) from congrFun (hi4_29.1 54 (by omega) (by first | omega | (dsimp only; omega) | (intro h; exact h))) (24 * ((t.toInt - 1).toNat) + q))
              refine lv_i2l hC.x hC.b dX10_line_109 rfl ?_
              refine lv_lsub hC.x hC.b dX10_line_110 ?_
              refine lv_goto (tgt := 127) hC.x hC.b dX10_line_111 (by decide) ?_
              refine lv_topl (fun x_89 ex_90 => ?_)
              refine lv_lstore (lv' := [(14, .long x_89), (12, .long x_61), (0, .ref (G.2.1 35)), (1, .int pl), (2, .int ga), (3, .long x3), (5, .long x5), (7, .long x7), (9, .long x9), (11, .int t)]) hC.x hC.b dX10_line_127 hl (by decide) rfl (fun ls hl => ?_)
              refine lv_aload_n hC.x hC.b dX10_line_129 rfl (lv_at hl 2 rfl) ?_
              refine lv_dup hC.x hC.b dX10_line_130 rfl ?_
              refine rget hC hK hR (ct_model G _ _) rfl uin_X10 44 (by decide) TF_X10_176 rfl dX10_line_131 ?_
              refine lv_iconst (v := 1) hC.x hC.b dX10_line_134 (by decide) ?_
              refine lv_iadd hC.x hC.b dX10_line_135 ?_
              have pr_91 : ((s1 35 44) + (1 : Int32)).toInt = ((s1 35 44).toInt + 1) := addI rfl rfl (by omega) (by omega)
              refine rputi hC hK hG hR hS (ct_model G _ _) rfl uin_X10 tyX10 tyX10_ok nmX10 44 (by decide) TF_X10_176 rfl (Or.inl rfl) (Nat.le_of_ble_eq_true rfl) rfl (ct_model G _ _) dX10_line_136 (fun s_93 es_92 H locs hR hS => ?_)
              refine lv_lload_n hC.x hC.b dX10_line_139 rfl (lv_at hl 5 rfl) ?_
              refine lv_lload hC.x hC.b dX10_line_140 (lv_at hl 1 rfl) ?_
              refine lv_ladd hC.x hC.b dX10_line_142 ?_
              have pr_94 : (x3 + x_61).toInt = (x3.toInt + (t.toInt - (s1 35 29).toInt)) := addL rfl pr_63 (by omega) (by omega)
              refine lv_lstore_n (lv' := [(3, .long (x3 + x_61)), (14, .long x_89), (12, .long x_61), (0, .ref (G.2.1 35)), (1, .int pl), (2, .int ga), (5, .long x5), (7, .long x7), (9, .long x9), (11, .int t)]) hC.x hC.b dX10_line_143 rfl hl (by decide) rfl (fun ls hl => ?_)
              refine lv_lload hC.x hC.b dX10_line_144 (lv_at hl 6 rfl) ?_
              refine lv_lload hC.x hC.b dX10_line_146 (lv_at hl 1 rfl) ?_
              refine lv_ladd hC.x hC.b dX10_line_148 ?_
              refine lv_lstore (lv' := [(5, .long (x5 + x_89)), (3, .long (x3 + x_61)), (14, .long x_89), (12, .long x_61), (0, .ref (G.2.1 35)), (1, .int pl), (2, .int ga), (7, .long x7), (9, .long x9), (11, .int t)]) hC.x hC.b dX10_line_149 hl (by decide) rfl (fun ls hl => ?_)
              refine lv_lload hC.x hC.b dX10_line_151 (lv_at hl 7 rfl) ?_
              refine lv_lload hC.x hC.b dX10_line_153 (lv_at hl 3 rfl) ?_
              refine lv_lload hC.x hC.b dX10_line_155 (lv_at hl 3 rfl) ?_
              have htt := sqle (m := (t.toInt - (s1 35 29).toInt)) (B := 12) (by omega) (by omega)
              refine lv_lmul hC.x hC.b dX10_line_157 ?_
              have pr_95 : (x_61 * x_61).toInt = ((t.toInt - (s1 35 29).toInt) * (t.toInt - (s1 35 29).toInt)) := mulL pr_63 pr_63 (by omega) (by omega)
              refine lv_ladd hC.x hC.b dX10_line_158 ?_
              have pr_96 : (x7 + (x_61 * x_61)).toInt = (x7.toInt + ((t.toInt - (s1 35 29).toInt) * (t.toInt - (s1 35 29).toInt))) := addL rfl pr_95 (by omega) (by omega)
              refine lv_lstore (lv' := [(7, .long (x7 + (x_61 * x_61))), (5, .long (x5 + x_89)), (3, .long (x3 + x_61)), (14, .long x_89), (12, .long x_61), (0, .ref (G.2.1 35)), (1, .int pl), (2, .int ga), (9, .long x9), (11, .int t)]) hC.x hC.b dX10_line_159 hl (by decide) rfl (fun ls hl => ?_)
              refine lv_lload hC.x hC.b dX10_line_161 (lv_at hl 8 rfl) ?_
              refine lv_lload hC.x hC.b dX10_line_163 (lv_at hl 4 rfl) ?_
              refine lv_lload hC.x hC.b dX10_line_165 (lv_at hl 3 rfl) ?_
              refine lv_lmul hC.x hC.b dX10_line_167 ?_
              refine lv_ladd hC.x hC.b dX10_line_168 ?_
              refine lv_lstore (lv' := [(9, .long (x9 + (x_61 * x_89))), (7, .long (x7 + (x_61 * x_61))), (5, .long (x5 + x_89)), (3, .long (x3 + x_61)), (14, .long x_89), (12, .long x_61), (0, .ref (G.2.1 35)), (1, .int pl), (2, .int ga), (11, .int t)]) hC.x hC.b dX10_line_169 hl (by decide) rfl (fun ls hl => ?_)
              obtain ⟨x_97, ex_98⟩ : ∃ y : Int32, y = t + 1 := ⟨_, rfl⟩
              have pr_99 : x_97.toInt = t.toInt + (1) := by rw [ex_98]; exact addI rfl rfl (by omega) (by omega)
              refine lv_iinc (v := x_97) (lv' := [(11, .int x_97), (9, .long (x9 + (x_61 * x_89))), (7, .long (x7 + (x_61 * x_61))), (5, .long (x5 + x_89)), (3, .long (x3 + x_61)), (14, .long x_89), (12, .long x_61), (0, .ref (G.2.1 35)), (1, .int pl), (2, .int ga)]) hC.x hC.b dX10_line_171 hl (k := 9) rfl ex_98.symm (by decide) rfl (fun ls hl => ?_)
              refine lv_goto (tgt := 29) hC.x hC.b dX10_line_174 (by decide) ?_
              have rd_100 : (s_93 35 44).toInt = ((s1 35 44) + (1 : Int32)).toInt := congrArg Int32.toInt (show s_93 35 44 = ((s1 35 44) + (1 : Int32)) from (by rw [es_92]; exact up2_s))
              exact ih_29 (n + 1) (x3 + x_61) (x5 + x_89) (x7 + (x_61 * x_61)) (x9 + (x_61 * x_89)) x_97 s_93 t1 (by omega) (by first | omega | assumption) (by exact LSq.ad hi1_29 (t := (t.toInt - (s1 35 29).toInt)) (by omega) (by omega) (by omega) (by omega) (by omega) (by omega) (by omega)) (by first | omega | assumption) (by exact ln_ad hi3_29 hi4_29 (by subst es_92; simp [up2]) hi2_29.1 (by omega) (by omega) (by assumption) (by first | exact fF_g hxb hi4_29 rfl (by omega) hi2_29.1 (by assumption) (by assumption) | exact fF_x hxb hi4_29 (by omega) hi2_29.1 (by assumption) (by assumption) | (exfalso; omega))) (by rw [es_92]; exact MRel.upm (hi4_29) (by first | omega | (dsimp only; omega))) _ _ _ hR hS (lv_sub hl [7, 8, 9, 4, 3, 2, 1, 0] rfl)
          · skip
            refine bz_ne (tgt := 68) (a := 0) (b := 0) hC.x hC.b rfl rfl dX10_line_62 (by decide) (fun c_101 => absurd c_101 (by decide)) (fun _ => ?_)
            refine lv_goto (tgt := 171) hC.x hC.b dX10_line_65 (by decide) ?_
            obtain ⟨x_102, ex_103⟩ : ∃ y : Int32, y = t + 1 := ⟨_, rfl⟩
            have pr_104 : x_102.toInt = t.toInt + (1) := by rw [ex_103]; exact addI rfl rfl (by omega) (by omega)
            refine lv_iinc (v := x_102) (lv' := [(11, .int x_102), (0, .ref (G.2.1 35)), (1, .int pl), (2, .int ga), (3, .long x3), (5, .long x5), (7, .long x7), (9, .long x9)]) hC.x hC.b dX10_line_171 hl (k := 7) rfl ex_103.symm (by decide) rfl (fun ls hl => ?_)
            refine lv_goto (tgt := 29) hC.x hC.b dX10_line_174 (by decide) ?_
            exact ih_29 (n + 1) x3 x5 x7 x9 x_102 s1 t1 (by omega) (by first | omega | assumption) (by exact LSq.sk hi1_29 (by omega)) (by first | omega | assumption) (by first | exact ln_ng hi3_29 hi4_29 rfl (by omega) hi2_29.1 (by assumption) | exact ln_nx hi3_29 hi4_29 (by omega) hi2_29.1 (by assumption)) hi4_29 _ _ _ hR hS (lv_sub hl [1, 2, 3, 4, 5, 6, 7, 0] rfl)
        · skip
          refine lv_aload_n hC.x hC.b dX10_line_42 rfl (lv_at hl 0 rfl) ?_
          refine lv_iload hC.x hC.b dX10_line_43 (lv_at hl 7 rfl) ?_
          refine lv_iload_n hC.x hC.b dX10_line_45 rfl (lv_at hl 1 rfl) ?_
          have rd_105 : (s1 35 29).toInt = (σ 35 29).toInt := congrArg Int32.toInt (show s1 35 29 = σ 35 29 from hi4_29.2 29 (by first | omega | (dsimp only; omega)))
          have rd_106 : (s1 37 q).toInt = (σ 37 q).toInt := congrArg Int32.toInt (show s1 37 q = σ 37 q from congrFun (hi4_29.1 37 (by omega) (by first | omega | (dsimp only; omega) | (intro h; exact h))) q)
          refine goip (runV (As := [.int t, .int pl]) (rest := []) hC hK hR hl.1 (c5_X10_isGain l hG s1 t1 t t.toInt.toNat rfl pl q (by first | rfl | (rw [show pl.toInt = pl.toInt from rfl]; done) | (rw [show pl.toInt = pl.toInt from rfl]; exact hp_q)) (by first | assumption | omega) (by omega) (by first | assumption | omega)) (call_b hC.ts TC_X10_isGain TN_X10 TM_X10_179 hd_X10_isGain ⟨Nat.le_of_ble_eq_true rfl, Nat.le_of_ble_eq_true rfl⟩) TI_X10_isGain TS_X10_isGain (ct_model G _ _) rfl rfl rfl (Nat.le_of_ble_eq_true rfl) dX10_line_46 ⟨Nat.le_of_ble_eq_true rfl, Nat.le_of_ble_eq_true rfl⟩) hS (fun v_107 H locs w_108 hR hS => ?_)
          rcases w_108 with ⟨rfl, f_109, f_110, f_111, f_112⟩ | ⟨rfl, f_113⟩
          · skip
            refine bz_ne (tgt := 68) (a := 1) (b := 0) hC.x hC.b rfl rfl dX10_line_49 (by decide) (fun _ => ?_) (fun c_114 => absurd c_114 (by decide))
            refine lv_iload hC.x hC.b dX10_line_68 (lv_at hl 7 rfl) ?_
            refine lv_aload_n hC.x hC.b dX10_line_70 rfl (lv_at hl 0 rfl) ?_
            refine rget hC hK hR (ct_model G _ _) rfl uin_X10 29 (by decide) TF_X10_137 rfl dX10_line_71 ?_
            have rd_115 : (s1 35 29).toInt = (σ 35 29).toInt := congrArg Int32.toInt (show s1 35 29 = σ 35 29 from hi4_29.2 29 (by first | omega | (dsimp only; omega)))
            refine lv_isub hC.x hC.b dX10_line_74 ?_
            have pr_116 : (t - (s1 35 29)).toInt = (t.toInt - (s1 35 29).toInt) := subI rfl rfl (by omega) (by omega)
            refine lv_i2l hC.x hC.b dX10_line_75 rfl ?_
            refine lv_topl (fun x_117 ex_118 => ?_)
            have pr_119 : x_117.toInt = (t.toInt - (s1 35 29).toInt) := by rw [ex_118]; exact (i2lI pr_116)
            refine lv_lstore (lv' := [(12, .long x_117), (0, .ref (G.2.1 35)), (1, .int pl), (2, .int ga), (3, .long x3), (5, .long x5), (7, .long x7), (9, .long x9), (11, .int t)]) hC.x hC.b dX10_line_76 hl (by decide) rfl (fun ls hl => ?_)
            refine lv_iload_n hC.x hC.b dX10_line_78 rfl (lv_at hl 3 rfl) ?_
            refine bz_eq (tgt := 114) (a := ga.toInt) (b := 0) hC.x hC.b rfl rfl dX10_line_79 (by decide) (fun c_120 => ?_) (fun c_120 => ?_)
            · skip
              refine lv_aload_n hC.x hC.b dX10_line_114 rfl (lv_at hl 1 rfl) ?_
              refine rget hC hK hR (ct_model G _ _) rfl uin_X10 18 (by decide) TF_X10_65 rfl dX10_line_115 ?_
              refine lv_aload_n hC.x hC.b dX10_line_118 rfl (lv_at hl 1 rfl) ?_
              refine lv_iload hC.x hC.b dX10_line_119 (lv_at hl 8 rfl) ?_
              refine lv_iload_n hC.x hC.b dX10_line_121 rfl (lv_at hl 2 rfl) ?_
              refine goip (runV (As := [.int t, .int pl]) (rest := [.ref (G.2.1 54)]) hC hK hR hl.1 (c_X10_at l hG s1 t1 t t.toInt.toNat rfl pl q (by first | rfl | (rw [show pl.toInt = pl.toInt from rfl]; done) | (rw [show pl.toInt = pl.toInt from rfl]; exact hp_q)) (by omega) (by omega)) (call_b hC.ts TC_X10_at TN_X10 TM_X10_140 hd_X10_at ⟨Nat.le_of_ble_eq_true rfl, Nat.le_of_ble_eq_true rfl⟩) TI_X10_at TS_X10_at (ct_model G _ _) rfl rfl rfl (Nat.le_of_ble_eq_true rfl) dX10_line_122 ⟨Nat.le_of_ble_eq_true rfl, Nat.le_of_ble_eq_true rfl⟩) hS (fun v_121 H locs w_122 hR hS => ?_)
              subst w_122
              refine ald hC hK hR (ct_m_xs G _ _) (nI_T _ (by omega)) (by omega) (by omega) (Int.toNat_natCast _) dX10_line_125 ?_
              have rd_123 : (s1 54 (24 * t.toInt.toNat + q)).toInt = (σ 54 (24 * t.toInt.toNat + q)).toInt := congrArg Int32.toInt (show s1 54 (24 * t.toInt.toNat + q) = σ 54 (24 * t.toInt.toNat + q) from congrFun (hi4_29.1 54 (by omega) (by first | omega | (dsimp only; omega) | (intro h; exact h))) (24 * t.toInt.toNat + q))
              refine lv_i2l hC.x hC.b dX10_line_126 rfl ?_
              refine lv_topl (fun x_124 ex_125 => ?_)
              have pr_126 : x_124.toInt = (s1 54 (24 * t.toInt.toNat + q)).toInt := by rw [ex_125]; exact (i2lI rfl)
              refine lv_lstore (lv' := [(14, .long x_124), (12, .long x_117), (0, .ref (G.2.1 35)), (1, .int pl), (2, .int ga), (3, .long x3), (5, .long x5), (7, .long x7), (9, .long x9), (11, .int t)]) hC.x hC.b dX10_line_127 hl (by decide) rfl (fun ls hl => ?_)
              refine lv_aload_n hC.x hC.b dX10_line_129 rfl (lv_at hl 2 rfl) ?_
              refine lv_dup hC.x hC.b dX10_line_130 rfl ?_
              refine rget hC hK hR (ct_model G _ _) rfl uin_X10 44 (by decide) TF_X10_176 rfl dX10_line_131 ?_
              refine lv_iconst (v := 1) hC.x hC.b dX10_line_134 (by decide) ?_
              refine lv_iadd hC.x hC.b dX10_line_135 ?_
              have pr_127 : ((s1 35 44) + (1 : Int32)).toInt = ((s1 35 44).toInt + 1) := addI rfl rfl (by omega) (by omega)
              refine rputi hC hK hG hR hS (ct_model G _ _) rfl uin_X10 tyX10 tyX10_ok nmX10 44 (by decide) TF_X10_176 rfl (Or.inl rfl) (Nat.le_of_ble_eq_true rfl) rfl (ct_model G _ _) dX10_line_136 (fun s_129 es_128 H locs hR hS => ?_)
              refine lv_lload_n hC.x hC.b dX10_line_139 rfl (lv_at hl 5 rfl) ?_
              refine lv_lload hC.x hC.b dX10_line_140 (lv_at hl 1 rfl) ?_
              refine lv_ladd hC.x hC.b dX10_line_142 ?_
              have pr_130 : (x3 + x_117).toInt = (x3.toInt + (t.toInt - (s1 35 29).toInt)) := addL rfl pr_119 (by omega) (by omega)
              refine lv_lstore_n (lv' := [(3, .long (x3 + x_117)), (14, .long x_124), (12, .long x_117), (0, .ref (G.2.1 35)), (1, .int pl), (2, .int ga), (5, .long x5), (7, .long x7), (9, .long x9), (11, .int t)]) hC.x hC.b dX10_line_143 rfl hl (by decide) rfl (fun ls hl => ?_)
              refine lv_lload hC.x hC.b dX10_line_144 (lv_at hl 6 rfl) ?_
              refine lv_lload hC.x hC.b dX10_line_146 (lv_at hl 1 rfl) ?_
              refine lv_ladd hC.x hC.b dX10_line_148 ?_
              refine lv_lstore (lv' := [(5, .long (x5 + x_124)), (3, .long (x3 + x_117)), (14, .long x_124), (12, .long x_117), (0, .ref (G.2.1 35)), (1, .int pl), (2, .int ga), (7, .long x7), (9, .long x9), (11, .int t)]) hC.x hC.b dX10_line_149 hl (by decide) rfl (fun ls hl => ?_)
              refine lv_lload hC.x hC.b dX10_line_151 (lv_at hl 7 rfl) ?_
              refine lv_lload hC.x hC.b dX10_line_153 (lv_at hl 3 rfl) ?_
              refine lv_lload hC.x hC.b dX10_line_155 (lv_at hl 3 rfl) ?_
              have htt := sqle (m := (t.toInt - (s1 35 29).toInt)) (B := 12) (by omega) (by omega)
              refine lv_lmul hC.x hC.b dX10_line_157 ?_
              have pr_131 : (x_117 * x_117).toInt = ((t.toInt - (s1 35 29).toInt) * (t.toInt - (s1 35 29).toInt)) := mulL pr_119 pr_119 (by omega) (by omega)
              refine lv_ladd hC.x hC.b dX10_line_158 ?_
              have pr_132 : (x7 + (x_117 * x_117)).toInt = (x7.toInt + ((t.toInt - (s1 35 29).toInt) * (t.toInt - (s1 35 29).toInt))) := addL rfl pr_131 (by omega) (by omega)
              refine lv_lstore (lv' := [(7, .long (x7 + (x_117 * x_117))), (5, .long (x5 + x_124)), (3, .long (x3 + x_117)), (14, .long x_124), (12, .long x_117), (0, .ref (G.2.1 35)), (1, .int pl), (2, .int ga), (9, .long x9), (11, .int t)]) hC.x hC.b dX10_line_159 hl (by decide) rfl (fun ls hl => ?_)
              refine lv_lload hC.x hC.b dX10_line_161 (lv_at hl 8 rfl) ?_
              refine lv_lload hC.x hC.b dX10_line_163 (lv_at hl 4 rfl) ?_
              refine lv_lload hC.x hC.b dX10_line_165 (lv_at hl 3 rfl) ?_
              refine lv_lmul hC.x hC.b dX10_line_167 ?_
              refine lv_ladd hC.x hC.b dX10_line_168 ?_
              refine lv_lstore (lv' := [(9, .long (x9 + (x_117 * x_124))), (7, .long (x7 + (x_117 * x_117))), (5, .long (x5 + x_124)), (3, .long (x3 + x_117)), (14, .long x_124), (12, .long x_117), (0, .ref (G.2.1 35)), (1, .int pl), (2, .int ga), (11, .int t)]) hC.x hC.b dX10_line_169 hl (by decide) rfl (fun ls hl => ?_)
              obtain ⟨x_133, ex_134⟩ : ∃ y : Int32, y = t + 1 := ⟨_, rfl⟩
              have pr_135 : x_133.toInt = t.toInt + (1) := by rw [ex_134]; exact addI rfl rfl (by omega) (by omega)
              refine lv_iinc (v := x_133) (lv' := [(11, .int x_133), (9, .long (x9 + (x_117 * x_124))), (7, .long (x7 + (x_117 * x_117))), (5, .long (x5 + x_124)), (3, .long (x3 + x_117)), (14, .long x_124), (12, .long x_117), (0, .ref (G.2.1 35)), (1, .int pl), (2, .int ga)]) hC.x hC.b dX10_line_171 hl (k := 9) rfl ex_134.symm (by decide) rfl (fun ls hl => ?_)
              refine lv_goto (tgt := 29) hC.x hC.b dX10_line_174 (by decide) ?_
              have rd_136 : (s_129 35 44).toInt = ((s1 35 44) + (1 : Int32)).toInt := congrArg Int32.toInt (show s_129 35 44 = ((s1 35 44) + (1 : Int32)) from (by rw [es_128]; exact up2_s))
              exact ih_29 (n + 1) (x3 + x_117) (x5 + x_124) (x7 + (x_117 * x_117)) (x9 + (x_117 * x_124)) x_133 s_129 t1 (by omega) (by first | omega | assumption) (by exact LSq.ad hi1_29 (t := (t.toInt - (s1 35 29).toInt)) (by omega) (by omega) (by omega) (by omega) (by omega) (by omega) (by omega)) (by first | omega | assumption) (by exact ln_ad hi3_29 hi4_29 (by subst es_128; simp [up2]) hi2_29.1 (by omega) (by omega) (by assumption) (by first | exact fF_g hxb hi4_29 rfl (by omega) hi2_29.1 (by assumption) (by assumption) | exact fF_x hxb hi4_29 (by omega) hi2_29.1 (by assumption) (by assumption) | (exfalso; omega))) (by rw [es_128]; exact MRel.upm (hi4_29) (by first | omega | (dsimp only; omega))) _ _ _ hR hS (lv_sub hl [7, 8, 9, 4, 3, 2, 1, 0] rfl)
            · skip
              refine lv_aload_n hC.x hC.b dX10_line_82 rfl (lv_at hl 1 rfl) ?_
              refine rget hC hK hR (ct_model G _ _) rfl uin_X10 18 (by decide) TF_X10_65 rfl dX10_line_83 ?_
              refine lv_aload_n hC.x hC.b dX10_line_86 rfl (lv_at hl 1 rfl) ?_
              refine lv_iload hC.x hC.b dX10_line_87 (lv_at hl 8 rfl) ?_
              refine lv_iload_n hC.x hC.b dX10_line_89 rfl (lv_at hl 2 rfl) ?_
              refine goip (runV (As := [.int t, .int pl]) (rest := [.ref (G.2.1 54)]) hC hK hR hl.1 (c_X10_at l hG s1 t1 t t.toInt.toNat rfl pl q (by first | rfl | (rw [show pl.toInt = pl.toInt from rfl]; done) | (rw [show pl.toInt = pl.toInt from rfl]; exact hp_q)) (by omega) (by omega)) (call_b hC.ts TC_X10_at TN_X10 TM_X10_140 hd_X10_at ⟨Nat.le_of_ble_eq_true rfl, Nat.le_of_ble_eq_true rfl⟩) TI_X10_at TS_X10_at (ct_model G _ _) rfl rfl rfl (Nat.le_of_ble_eq_true rfl) dX10_line_90 ⟨Nat.le_of_ble_eq_true rfl, Nat.le_of_ble_eq_true rfl⟩) hS (fun v_137 H locs w_138 hR hS => ?_)
              subst w_138
              refine ald hC hK hR (ct_m_xs G _ _) (nI_T _ (by omega)) (by omega) (by omega) (Int.toNat_natCast _) dX10_line_93 ?_
              have rd_139 : (s1 54 (24 * t.toInt.toNat + q)).toInt = (σ 54 (24 * t.toInt.toNat + q)).toInt := congrArg Int32.toInt (show s1 54 (24 * t.toInt.toNat + q) = σ 54 (24 * t.toInt.toNat + q) from congrFun (hi4_29.1 54 (by omega) (by first | omega | (dsimp only; omega) | (intro h; exact h))) (24 * t.toInt.toNat + q))
              refine lv_i2l hC.x hC.b dX10_line_94 rfl ?_
              refine lv_aload_n hC.x hC.b dX10_line_95 rfl (lv_at hl 1 rfl) ?_
              refine rget hC hK hR (ct_model G _ _) rfl uin_X10 18 (by decide) TF_X10_65 rfl dX10_line_96 ?_
              refine lv_aload_n hC.x hC.b dX10_line_99 rfl (lv_at hl 1 rfl) ?_
              refine lv_iload hC.x hC.b dX10_line_100 (lv_at hl 8 rfl) ?_
              refine lv_iconst (v := 1) hC.x hC.b dX10_line_102 (by decide) ?_
              refine lv_isub hC.x hC.b dX10_line_103 ?_
              have pr_140 : (t - (1 : Int32)).toInt = (t.toInt - 1) := subI rfl rfl (by omega) (by omega)
              refine lv_iload_n hC.x hC.b dX10_line_104 rfl (lv_at hl 2 rfl) ?_
              have av_141 : (t - (1 : Int32)).toInt = (t.toInt - 1) := pr_140
              refine goip (runV (As := [.int (t - (1 : Int32)), .int pl]) (rest := [.ref (G.2.1 54), .long ((s1 54 (24 * t.toInt.toNat + q)).toInt64)]) hC hK hR hl.1 (c_X10_at l hG s1 t1 (t - (1 : Int32)) ((t.toInt - 1).toNat) (by first | rfl | (rw [show (t - (1 : Int32)).toInt = (t.toInt - 1) from pr_140]; done) | (rw [show (t - (1 : Int32)).toInt = (t.toInt - 1) from pr_140]; exact rfl)) pl q (by first | rfl | (rw [show pl.toInt = pl.toInt from rfl]; done) | (rw [show pl.toInt = pl.toInt from rfl]; exact hp_q)) (by omega) (by omega)) (call_b hC.ts TC_X10_at TN_X10 TM_X10_140 hd_X10_at ⟨Nat.le_of_ble_eq_true rfl, Nat.le_of_ble_eq_true rfl⟩) TI_X10_at TS_X10_at (ct_model G _ _) rfl rfl rfl (Nat.le_of_ble_eq_true rfl) dX10_line_105 ⟨Nat.le_of_ble_eq_true rfl, Nat.le_of_ble_eq_true rfl⟩) hS (fun v_142 H locs w_143 hR hS => ?_)
              subst w_143
              refine ald hC hK hR (ct_m_xs G _ _) (nI_T _ (by omega)) (by omega) (by omega) (Int.toNat_natCast _) dX10_line_108 ?_
              have rd_144 : (s1 54 (24 * ((t.toInt - 1).toNat) + q)).toInt = (σ 54 (24 * ((t.toInt - 1).toNat) + q)).toInt := congrArg Int32.toInt (show s1 54 (24 * ((t.toInt - 1).toNat) + q) = σ 54 (24 * ((t.toInt - 1).toNat) + q) from congrFun (hi4_29.1 54 (by omega) (by first | omega | (dsimp only; omega) | (intro h; exact h))) (24 * ((t.toInt - 1).toNat) + q))
              refine lv_i2l hC.x hC.b dX10_line_109 rfl ?_
              refine lv_lsub hC.x hC.b dX10_line_110 ?_
              refine lv_goto (tgt := 127) hC.x hC.b dX10_line_111 (by decide) ?_
              refine lv_topl (fun x_145 ex_146 => ?_)
              refine lv_lstore (lv' := [(14, .long x_145), (12, .long x_117), (0, .ref (G.2.1 35)), (1, .int pl), (2, .int ga), (3, .long x3), (5, .long x5), (7, .long x7), (9, .long x9), (11, .int t)]) hC.x hC.b dX10_line_127 hl (by decide) rfl (fun ls hl => ?_)
              refine lv_aload_n hC.x hC.b dX10_line_129 rfl (lv_at hl 2 rfl) ?_
              refine lv_dup hC.x hC.b dX10_line_130 rfl ?_
              refine rget hC hK hR (ct_model G _ _) rfl uin_X10 44 (by decide) TF_X10_176 rfl dX10_line_131 ?_
              refine lv_iconst (v := 1) hC.x hC.b dX10_line_134 (by decide) ?_
              refine lv_iadd hC.x hC.b dX10_line_135 ?_
              have pr_147 : ((s1 35 44) + (1 : Int32)).toInt = ((s1 35 44).toInt + 1) := addI rfl rfl (by omega) (by omega)
              refine rputi hC hK hG hR hS (ct_model G _ _) rfl uin_X10 tyX10 tyX10_ok nmX10 44 (by decide) TF_X10_176 rfl (Or.inl rfl) (Nat.le_of_ble_eq_true rfl) rfl (ct_model G _ _) dX10_line_136 (fun s_149 es_148 H locs hR hS => ?_)
              refine lv_lload_n hC.x hC.b dX10_line_139 rfl (lv_at hl 5 rfl) ?_
              refine lv_lload hC.x hC.b dX10_line_140 (lv_at hl 1 rfl) ?_
              refine lv_ladd hC.x hC.b dX10_line_142 ?_
              have pr_150 : (x3 + x_117).toInt = (x3.toInt + (t.toInt - (s1 35 29).toInt)) := addL rfl pr_119 (by omega) (by omega)
              refine lv_lstore_n (lv' := [(3, .long (x3 + x_117)), (14, .long x_145), (12, .long x_117), (0, .ref (G.2.1 35)), (1, .int pl), (2, .int ga), (5, .long x5), (7, .long x7), (9, .long x9), (11, .int t)]) hC.x hC.b dX10_line_143 rfl hl (by decide) rfl (fun ls hl => ?_)
              refine lv_lload hC.x hC.b dX10_line_144 (lv_at hl 6 rfl) ?_
              refine lv_lload hC.x hC.b dX10_line_146 (lv_at hl 1 rfl) ?_
              refine lv_ladd hC.x hC.b dX10_line_148 ?_
              refine lv_lstore (lv' := [(5, .long (x5 + x_145)), (3, .long (x3 + x_117)), (14, .long x_145), (12, .long x_117), (0, .ref (G.2.1 35)), (1, .int pl), (2, .int ga), (7, .long x7), (9, .long x9), (11, .int t)]) hC.x hC.b dX10_line_149 hl (by decide) rfl (fun ls hl => ?_)
              refine lv_lload hC.x hC.b dX10_line_151 (lv_at hl 7 rfl) ?_
              refine lv_lload hC.x hC.b dX10_line_153 (lv_at hl 3 rfl) ?_
              refine lv_lload hC.x hC.b dX10_line_155 (lv_at hl 3 rfl) ?_
              have htt := sqle (m := (t.toInt - (s1 35 29).toInt)) (B := 12) (by omega) (by omega)
              refine lv_lmul hC.x hC.b dX10_line_157 ?_
              have pr_151 : (x_117 * x_117).toInt = ((t.toInt - (s1 35 29).toInt) * (t.toInt - (s1 35 29).toInt)) := mulL pr_119 pr_119 (by omega) (by omega)
              refine lv_ladd hC.x hC.b dX10_line_158 ?_
              have pr_152 : (x7 + (x_117 * x_117)).toInt = (x7.toInt + ((t.toInt - (s1 35 29).toInt) * (t.toInt - (s1 35 29).toInt))) := addL rfl pr_151 (by omega) (by omega)
              refine lv_lstore (lv' := [(7, .long (x7 + (x_117 * x_117))), (5, .long (x5 + x_145)), (3, .long (x3 + x_117)), (14, .long x_145), (12, .long x_117), (0, .ref (G.2.1 35)), (1, .int pl), (2, .int ga), (9, .long x9), (11, .int t)]) hC.x hC.b dX10_line_159 hl (by decide) rfl (fun ls hl => ?_)
              refine lv_lload hC.x hC.b dX10_line_161 (lv_at hl 8 rfl) ?_
              refine lv_lload hC.x hC.b dX10_line_163 (lv_at hl 4 rfl) ?_
              refine lv_lload hC.x hC.b dX10_line_165 (lv_at hl 3 rfl) ?_
              refine lv_lmul hC.x hC.b dX10_line_167 ?_
              refine lv_ladd hC.x hC.b dX10_line_168 ?_
              refine lv_lstore (lv' := [(9, .long (x9 + (x_117 * x_145))), (7, .long (x7 + (x_117 * x_117))), (5, .long (x5 + x_145)), (3, .long (x3 + x_117)), (14, .long x_145), (12, .long x_117), (0, .ref (G.2.1 35)), (1, .int pl), (2, .int ga), (11, .int t)]) hC.x hC.b dX10_line_169 hl (by decide) rfl (fun ls hl => ?_)
              obtain ⟨x_153, ex_154⟩ : ∃ y : Int32, y = t + 1 := ⟨_, rfl⟩
              have pr_155 : x_153.toInt = t.toInt + (1) := by rw [ex_154]; exact addI rfl rfl (by omega) (by omega)
              refine lv_iinc (v := x_153) (lv' := [(11, .int x_153), (9, .long (x9 + (x_117 * x_145))), (7, .long (x7 + (x_117 * x_117))), (5, .long (x5 + x_145)), (3, .long (x3 + x_117)), (14, .long x_145), (12, .long x_117), (0, .ref (G.2.1 35)), (1, .int pl), (2, .int ga)]) hC.x hC.b dX10_line_171 hl (k := 9) rfl ex_154.symm (by decide) rfl (fun ls hl => ?_)
              refine lv_goto (tgt := 29) hC.x hC.b dX10_line_174 (by decide) ?_
              have rd_156 : (s_149 35 44).toInt = ((s1 35 44) + (1 : Int32)).toInt := congrArg Int32.toInt (show s_149 35 44 = ((s1 35 44) + (1 : Int32)) from (by rw [es_148]; exact up2_s))
              exact ih_29 (n + 1) (x3 + x_117) (x5 + x_145) (x7 + (x_117 * x_117)) (x9 + (x_117 * x_145)) x_153 s_149 t1 (by omega) (by first | omega | assumption) (by exact LSq.ad hi1_29 (t := (t.toInt - (s1 35 29).toInt)) (by omega) (by omega) (by omega) (by omega) (by omega) (by omega) (by omega)) (by first | omega | assumption) (by exact ln_ad hi3_29 hi4_29 (by subst es_148; simp [up2]) hi2_29.1 (by omega) (by omega) (by assumption) (by first | exact fF_g hxb hi4_29 rfl (by omega) hi2_29.1 (by assumption) (by assumption) | exact fF_x hxb hi4_29 (by omega) hi2_29.1 (by assumption) (by assumption) | (exfalso; omega))) (by rw [es_148]; exact MRel.upm (hi4_29) (by first | omega | (dsimp only; omega))) _ _ _ hR hS (lv_sub hl [7, 8, 9, 4, 3, 2, 1, 0] rfl)
          · skip
            refine bz_ne (tgt := 68) (a := 0) (b := 0) hC.x hC.b rfl rfl dX10_line_49 (by decide) (fun c_157 => absurd c_157 (by decide)) (fun _ => ?_)
            refine lv_goto (tgt := 171) hC.x hC.b dX10_line_52 (by decide) ?_
            obtain ⟨x_158, ex_159⟩ : ∃ y : Int32, y = t + 1 := ⟨_, rfl⟩
            have pr_160 : x_158.toInt = t.toInt + (1) := by rw [ex_159]; exact addI rfl rfl (by omega) (by omega)
            refine lv_iinc (v := x_158) (lv' := [(11, .int x_158), (0, .ref (G.2.1 35)), (1, .int pl), (2, .int ga), (3, .long x3), (5, .long x5), (7, .long x7), (9, .long x9)]) hC.x hC.b dX10_line_171 hl (k := 7) rfl ex_159.symm (by decide) rfl (fun ls hl => ?_)
            refine lv_goto (tgt := 29) hC.x hC.b dX10_line_174 (by decide) ?_
            exact ih_29 (n + 1) x3 x5 x7 x9 x_158 s1 t1 (by omega) (by first | omega | assumption) (by exact LSq.sk hi1_29 (by omega)) (by first | omega | assumption) (by first | exact ln_ng hi3_29 hi4_29 rfl (by omega) hi2_29.1 (by assumption) | exact ln_nx hi3_29 hi4_29 (by omega) hi2_29.1 (by assumption)) hi4_29 _ _ _ hR hS (lv_sub hl [1, 2, 3, 4, 5, 6, 7, 0] rfl)
  have rd_161 : (s_2 35 44).toInt = 0 := (congrArg Int32.toInt (show s_2 35 44 = (0 : Int32) from (by rw [es_1]; exact up2_s))).trans (by decide)
  exact L_29 _ 0 (0 : Int64) (0 : Int64) (0 : Int64) (0 : Int64) x_6 s_2 τ (Nat.lt_succ_self _) (by first | omega | assumption) (by exact LSq.st (by omega) (by omega) (by first | decide | omega) (by first | decide | omega)) (by first | omega | assumption) (by subst es_1; exact LNm.z (by simp [up2])) (by rw [es_1]; exact MRel.upm (MRel.rf) (by first | omega | (dsimp only; omega))) _ _ _ hR hS (lv_sub hl [5, 6, 7, 4, 3, 2, 1, 0] rfl)

abbrev po5_X10_foretold (σ : SI) (τ : SL) (pl : Int32) (q : Nat) : Int32 → SI × SL → Prop := fun v u => ((v = (FT (pX σ q) (σ 37 q).toInt (σ 35 29).toInt (σ 36 q).toInt)) ∧ (MRel (fun _ => False) (fun j => j = 44) σ u.1))
set_option maxRecDepth 100000 in
set_option maxHeartbeats 4000000 in
theorem c5_X10_foretold (l : Launch) {G : Gx} {A : Nat → Prop} (hG : GOk G A) (σ : SI) (τ : SL) (pl : Int32) (q : Nat) (hp_q : pl.toInt.toNat = q) (hnw : 0 ≤ (σ 35 29).toInt ∧ (σ 35 29).toInt ≤ 200) (hin : 0 ≤ pl.toInt ∧ pl.toInt < 24) (ho : 2 ≤ (σ 37 q).toInt ∧ (σ 37 q).toInt ≤ 12) (hxb : XB σ) : MI l G A 4 yX10_foretold cX10_foretold 5 (some .int) [.ref (G.2.1 35), .int pl] (σ, τ) (po5_X10_foretold σ τ pl q) := by
  refine met_of (own := RX10) (by decide +kernel) rfl [(0, .ref (G.2.1 35)), (1, .int pl)] rfl (Nat.le_of_ble_eq_true rfl) ?_
  intro p e s m args below meth c ls hC hK hR hl
  have hS : va_S A s.heap s.heap [] := va_S.rf
  refine lv_aload_n hC.x hC.b dX10_foretold_0 rfl (lv_at hl 0 rfl) ?_
  refine lv_iload_n hC.x hC.b dX10_foretold_1 rfl (lv_at hl 1 rfl) ?_
  refine goip (runV (As := [.int pl]) (rest := []) hC hK hR hl.1 (c5_X10_byGains l hG σ τ pl q (by first | rfl | (rw [show pl.toInt = pl.toInt from rfl]; done) | (rw [show pl.toInt = pl.toInt from rfl]; exact hp_q)) (by first | assumption | omega) (by omega) (by first | assumption | omega) (by first | assumption)) (call_b hC.ts TC_X10_byGains TN_X10 TM_X10_196 hd_X10_byGains ⟨Nat.le_of_ble_eq_true rfl, Nat.le_of_ble_eq_true rfl⟩) TI_X10_byGains TS_X10_byGains (ct_model G _ _) rfl rfl rfl (Nat.le_of_ble_eq_true rfl) dX10_foretold_2 ⟨Nat.le_of_ble_eq_true rfl, Nat.le_of_ble_eq_true rfl⟩) hS (fun v_1 H locs w_2 hR hS => ?_)
  rcases w_2 with ⟨rfl, f_3, f_4⟩ | ⟨rfl, f_5⟩
  · skip
    refine lv_istore_n (lv' := [(2, .int (1 : Int32)), (0, .ref (G.2.1 35)), (1, .int pl)]) hC.x hC.b dX10_foretold_5 rfl hl (by decide) rfl (fun ls hl => ?_)
    refine lv_aload_n hC.x hC.b dX10_foretold_6 rfl (lv_at hl 1 rfl) ?_
    refine lv_iload_n hC.x hC.b dX10_foretold_7 rfl (lv_at hl 2 rfl) ?_
    refine lv_iload_n hC.x hC.b dX10_foretold_8 rfl (lv_at hl 0 rfl) ?_
    have av_6 : (1 : Int32).toInt = 1 := by decide
    refine gov (runV (As := [.int pl, .int (1 : Int32)]) (rest := []) hC hK hR hl.1 (c5_X10_line l hG σ τ pl q (by first | rfl | (rw [show pl.toInt = pl.toInt from rfl]; done) | (rw [show pl.toInt = pl.toInt from rfl]; exact hp_q)) (1 : Int32) (by first | assumption | omega) (by omega) (by first | assumption | omega) (by first | assumption)) (call_b hC.ts TC_X10_line TN_X10 TM_X10_199 hd_X10_line ⟨Nat.le_of_ble_eq_true rfl, Nat.le_of_ble_eq_true rfl⟩) TI_X10_line TS_X10_line (ct_model G _ _) rfl rfl rfl (Nat.le_of_ble_eq_true rfl) dX10_foretold_9 ⟨Nat.le_of_ble_eq_true rfl, Nat.le_of_ble_eq_true rfl⟩) hS (fun s_9 t_10 H locs w_8 hR hS => ?_)
    try dsimp only [po5_X10_line] at w_8
    obtain ⟨f_11, f_12, f_13⟩ := w_8
    have hA : LNp s_9 t_10 (LF (pX σ q) (σ 37 q).toInt (σ 35 29).toInt (σ 36 q).toInt) := by first | (rw [← LF_m1 (by assumption)]; assumption) | (rw [← LF_m0 (by assumption)]; assumption)
    have hB : LB (LF (pX σ q) (σ 37 q).toInt (σ 35 29).toInt (σ 36 q).toInt) := LF_lb (pX_R hxb) (by omega)
    have hAb := lnp_a hA hB
    refine lv_aload_n hC.x hC.b dX10_foretold_12 rfl (lv_at hl 1 rfl) ?_
    refine rget hC hK hR (ct_model G _ _) rfl uin_X10 44 (by decide) TF_X10_176 rfl dX10_foretold_13 ?_
    refine bz_ne (tgt := 22) (a := (s_9 35 44).toInt) (b := 0) hC.x hC.b rfl rfl dX10_foretold_16 (by decide) (fun c_14 => ?_) (fun c_14 => ?_)
    · skip
      refine lv_iload_n hC.x hC.b dX10_foretold_22 rfl (lv_at hl 0 rfl) ?_
      refine bz_eq (tgt := 51) (a := 1) (b := 0) hC.x hC.b rfl rfl dX10_foretold_23 (by decide) (fun c_15 => absurd c_15 (by decide)) (fun _ => ?_)
      refine lv_aload_n hC.x hC.b dX10_foretold_26 rfl (lv_at hl 1 rfl) ?_
      refine rget hC hK hR (ct_model G _ _) rfl uin_X10 18 (by decide) TF_X10_65 rfl dX10_foretold_27 ?_
      refine lv_aload_n hC.x hC.b dX10_foretold_30 rfl (lv_at hl 1 rfl) ?_
      refine lv_aload_n hC.x hC.b dX10_foretold_31 rfl (lv_at hl 1 rfl) ?_
      refine rget hC hK hR (ct_model G _ _) rfl uin_X10 29 (by decide) TF_X10_137 rfl dX10_foretold_32 ?_
      have rd_16 : (s_9 35 29).toInt = (σ 35 29).toInt := congrArg Int32.toInt (show s_9 35 29 = σ 35 29 from f_11.2 29 (by first | omega | (dsimp only; omega)))
      refine lv_iconst (v := 1) hC.x hC.b dX10_foretold_35 (by decide) ?_
      refine lv_isub hC.x hC.b dX10_foretold_36 ?_
      have pr_17 : ((s_9 35 29) - (1 : Int32)).toInt = ((s_9 35 29).toInt - 1) := subI rfl rfl (by omega) (by omega)
      refine lv_iload_n hC.x hC.b dX10_foretold_37 rfl (lv_at hl 2 rfl) ?_
      have av_18 : ((s_9 35 29) - (1 : Int32)).toInt = ((s_9 35 29).toInt - 1) := pr_17
      refine goip (runV (As := [.int ((s_9 35 29) - (1 : Int32)), .int pl]) (rest := [.ref (G.2.1 54)]) hC hK hR hl.1 (c_X10_at l hG s_9 t_10 ((s_9 35 29) - (1 : Int32)) (((s_9 35 29).toInt - 1).toNat) (by first | rfl | (rw [show ((s_9 35 29) - (1 : Int32)).toInt = ((s_9 35 29).toInt - 1) from pr_17]; done) | (rw [show ((s_9 35 29) - (1 : Int32)).toInt = ((s_9 35 29).toInt - 1) from pr_17]; exact rfl)) pl q (by first | rfl | (rw [show pl.toInt = pl.toInt from rfl]; done) | (rw [show pl.toInt = pl.toInt from rfl]; exact hp_q)) (by omega) (by omega)) (call_b hC.ts TC_X10_at TN_X10 TM_X10_140 hd_X10_at ⟨Nat.le_of_ble_eq_true rfl, Nat.le_of_ble_eq_true rfl⟩) TI_X10_at TS_X10_at (ct_model G _ _) rfl rfl rfl (Nat.le_of_ble_eq_true rfl) dX10_foretold_38 ⟨Nat.le_of_ble_eq_true rfl, Nat.le_of_ble_eq_true rfl⟩) hS (fun v_19 H locs w_20 hR hS => ?_)
      subst w_20
      refine ald hC hK hR (ct_m_xs G _ _) (nI_T _ (by omega)) (by omega) (by omega) (Int.toNat_natCast _) dX10_foretold_41 ?_
      have rd_21 : (s_9 54 (24 * (((s_9 35 29).toInt - 1).toNat) + q)).toInt = (σ 54 (24 * (((s_9 35 29).toInt - 1).toNat) + q)).toInt := congrArg Int32.toInt (show s_9 54 (24 * (((s_9 35 29).toInt - 1).toNat) + q) = σ 54 (24 * (((s_9 35 29).toInt - 1).toNat) + q) from congrFun (f_11.1 54 (by omega) (by first | omega | (dsimp only; omega) | (intro h; exact h))) (24 * (((s_9 35 29).toInt - 1).toNat) + q))
      refine lv_i2l hC.x hC.b dX10_foretold_42 rfl ?_
      refine lv_aload_n hC.x hC.b dX10_foretold_43 rfl (lv_at hl 1 rfl) ?_
      refine rget hC hK hR (ct_model G _ _) rfl uin_X10 47 (by decide) TF_X10_189 rfl dX10_foretold_44 ?_
      refine lv_ladd hC.x hC.b dX10_foretold_47 ?_
      refine lv_goto (tgt := 55) hC.x hC.b dX10_foretold_48 (by decide) ?_
      refine lv_topl (fun x_22 ex_23 => ?_)
      refine lv_lstore_n (lv' := [(3, .long x_22), (2, .int (1 : Int32)), (0, .ref (G.2.1 35)), (1, .int pl)]) hC.x hC.b dX10_foretold_55 rfl hl (by decide) rfl (fun ls hl => ?_)
      refine lv_lload_n hC.x hC.b dX10_foretold_56 rfl (lv_at hl 0 rfl) ?_
      refine lv_ldc2 hC.x hC.b hC.ow (hC.ts _ TK_X10_204) dX10_foretold_57 ?_
      refine bl_le (tgt := 69) (a := x_22.toInt) (b := 1000000000) hC.x hC.b rfl rfl dX10_foretold_60 dX10_foretold_61 (by decide) (fun c_24 => ?_) (fun c_24 => ?_)
      · skip
        refine lv_lload_n hC.x hC.b dX10_foretold_69 rfl (lv_at hl 0 rfl) ?_
        refine lv_ldc2 hC.x hC.b hC.ow (hC.ts _ TK_X10_207) dX10_foretold_70 ?_
        refine bl_ge (tgt := 82) (a := x_22.toInt) (b := (-1000000000)) hC.x hC.b rfl rfl dX10_foretold_73 dX10_foretold_74 (by decide) (fun c_25 => ?_) (fun c_25 => ?_)
        · skip
          refine lv_lload_n hC.x hC.b dX10_foretold_82 rfl (lv_at hl 0 rfl) ?_
          refine lv_l2i hC.x hC.b dX10_foretold_83 rfl ?_
          exact reti hC hK hR hS (⟨by first | exact ftm_0 hA (by omega) | exact ftm_g hxb (by assumption) ho (by assumption) hA (by omega) (by assumption) (by first | exact Or.inl ⟨by omega, rfl⟩ | exact Or.inr (Or.inl ⟨by omega, rfl⟩) | exact Or.inr (Or.inr ⟨by omega, by omega, rfl⟩)) | exact ftm_x (pX_R hxb) ho (by assumption) hA (by omega) (by first | exact Or.inl ⟨by omega, rfl⟩ | exact Or.inr (Or.inl ⟨by omega, rfl⟩) | exact Or.inr (Or.inr ⟨by omega, by omega, rfl⟩)), by exact (MRel.tr MRel.rf f_11)⟩) dX10_foretold_84
        · skip
          refine lv_ldc hC.x hC.b hC.ow (hC.ts _ TK_X10_209) dX10_foretold_77 ?_
          refine lv_goto (tgt := 84) hC.x hC.b dX10_foretold_79 (by decide) ?_
          exact reti hC hK hR hS (⟨by first | exact ftm_0 hA (by omega) | exact ftm_g hxb (by assumption) ho (by assumption) hA (by omega) (by assumption) (by first | exact Or.inl ⟨by omega, rfl⟩ | exact Or.inr (Or.inl ⟨by omega, rfl⟩) | exact Or.inr (Or.inr ⟨by omega, by omega, rfl⟩)) | exact ftm_x (pX_R hxb) ho (by assumption) hA (by omega) (by first | exact Or.inl ⟨by omega, rfl⟩ | exact Or.inr (Or.inl ⟨by omega, rfl⟩) | exact Or.inr (Or.inr ⟨by omega, by omega, rfl⟩)), by exact (MRel.tr MRel.rf f_11)⟩) dX10_foretold_84
      · skip
        refine lv_ldc hC.x hC.b hC.ow (hC.ts _ TK_X10_206) dX10_foretold_64 ?_
        refine lv_goto (tgt := 84) hC.x hC.b dX10_foretold_66 (by decide) ?_
        exact reti hC hK hR hS (⟨by first | exact ftm_0 hA (by omega) | exact ftm_g hxb (by assumption) ho (by assumption) hA (by omega) (by assumption) (by first | exact Or.inl ⟨by omega, rfl⟩ | exact Or.inr (Or.inl ⟨by omega, rfl⟩) | exact Or.inr (Or.inr ⟨by omega, by omega, rfl⟩)) | exact ftm_x (pX_R hxb) ho (by assumption) hA (by omega) (by first | exact Or.inl ⟨by omega, rfl⟩ | exact Or.inr (Or.inl ⟨by omega, rfl⟩) | exact Or.inr (Or.inr ⟨by omega, by omega, rfl⟩)), by exact (MRel.tr MRel.rf f_11)⟩) dX10_foretold_84
    · skip
      refine lv_ldc hC.x hC.b hC.ow (hC.ts _ TK_X10_203) dX10_foretold_19 ?_
      exact reti hC hK hR hS (⟨by first | exact ftm_0 hA (by omega) | exact ftm_g hxb (by assumption) ho (by assumption) hA (by omega) (by assumption) (by first | exact Or.inl ⟨by omega, rfl⟩ | exact Or.inr (Or.inl ⟨by omega, rfl⟩) | exact Or.inr (Or.inr ⟨by omega, by omega, rfl⟩)) | exact ftm_x (pX_R hxb) ho (by assumption) hA (by omega) (by first | exact Or.inl ⟨by omega, rfl⟩ | exact Or.inr (Or.inl ⟨by omega, rfl⟩) | exact Or.inr (Or.inr ⟨by omega, by omega, rfl⟩)), by exact (MRel.tr MRel.rf f_11)⟩) dX10_foretold_21
  · skip
    refine lv_istore_n (lv' := [(2, .int (0 : Int32)), (0, .ref (G.2.1 35)), (1, .int pl)]) hC.x hC.b dX10_foretold_5 rfl hl (by decide) rfl (fun ls hl => ?_)
    refine lv_aload_n hC.x hC.b dX10_foretold_6 rfl (lv_at hl 1 rfl) ?_
    refine lv_iload_n hC.x hC.b dX10_foretold_7 rfl (lv_at hl 2 rfl) ?_
    refine lv_iload_n hC.x hC.b dX10_foretold_8 rfl (lv_at hl 0 rfl) ?_
    have av_26 : (0 : Int32).toInt = 0 := by decide
    refine gov (runV (As := [.int pl, .int (0 : Int32)]) (rest := []) hC hK hR hl.1 (c5_X10_line l hG σ τ pl q (by first | rfl | (rw [show pl.toInt = pl.toInt from rfl]; done) | (rw [show pl.toInt = pl.toInt from rfl]; exact hp_q)) (0 : Int32) (by first | assumption | omega) (by omega) (by first | assumption | omega) (by first | assumption)) (call_b hC.ts TC_X10_line TN_X10 TM_X10_199 hd_X10_line ⟨Nat.le_of_ble_eq_true rfl, Nat.le_of_ble_eq_true rfl⟩) TI_X10_line TS_X10_line (ct_model G _ _) rfl rfl rfl (Nat.le_of_ble_eq_true rfl) dX10_foretold_9 ⟨Nat.le_of_ble_eq_true rfl, Nat.le_of_ble_eq_true rfl⟩) hS (fun s_29 t_30 H locs w_28 hR hS => ?_)
    try dsimp only [po5_X10_line] at w_28
    obtain ⟨f_31, f_32, f_33⟩ := w_28
    have hA : LNp s_29 t_30 (LF (pX σ q) (σ 37 q).toInt (σ 35 29).toInt (σ 36 q).toInt) := by first | (rw [← LF_m1 (by assumption)]; assumption) | (rw [← LF_m0 (by assumption)]; assumption)
    have hB : LB (LF (pX σ q) (σ 37 q).toInt (σ 35 29).toInt (σ 36 q).toInt) := LF_lb (pX_R hxb) (by omega)
    have hAb := lnp_a hA hB
    refine lv_aload_n hC.x hC.b dX10_foretold_12 rfl (lv_at hl 1 rfl) ?_
    refine rget hC hK hR (ct_model G _ _) rfl uin_X10 44 (by decide) TF_X10_176 rfl dX10_foretold_13 ?_
    refine bz_ne (tgt := 22) (a := (s_29 35 44).toInt) (b := 0) hC.x hC.b rfl rfl dX10_foretold_16 (by decide) (fun c_34 => ?_) (fun c_34 => ?_)
    · skip
      refine lv_iload_n hC.x hC.b dX10_foretold_22 rfl (lv_at hl 0 rfl) ?_
      refine bz_eq (tgt := 51) (a := 0) (b := 0) hC.x hC.b rfl rfl dX10_foretold_23 (by decide) (fun _ => ?_) (fun c_35 => absurd c_35 (by decide))
      refine lv_aload_n hC.x hC.b dX10_foretold_51 rfl (lv_at hl 1 rfl) ?_
      refine rget hC hK hR (ct_model G _ _) rfl uin_X10 47 (by decide) TF_X10_189 rfl dX10_foretold_52 ?_
      refine lv_lstore_n (lv' := [(3, .long (t_30 35 47)), (2, .int (0 : Int32)), (0, .ref (G.2.1 35)), (1, .int pl)]) hC.x hC.b dX10_foretold_55 rfl hl (by decide) rfl (fun ls hl => ?_)
      refine lv_lload_n hC.x hC.b dX10_foretold_56 rfl (lv_at hl 0 rfl) ?_
      refine lv_ldc2 hC.x hC.b hC.ow (hC.ts _ TK_X10_204) dX10_foretold_57 ?_
      refine bl_le (tgt := 69) (a := (t_30 35 47).toInt) (b := 1000000000) hC.x hC.b rfl rfl dX10_foretold_60 dX10_foretold_61 (by decide) (fun c_36 => ?_) (fun c_36 => ?_)
      · skip
        refine lv_lload_n hC.x hC.b dX10_foretold_69 rfl (lv_at hl 0 rfl) ?_
        refine lv_ldc2 hC.x hC.b hC.ow (hC.ts _ TK_X10_207) dX10_foretold_70 ?_
        refine bl_ge (tgt := 82) (a := (t_30 35 47).toInt) (b := (-1000000000)) hC.x hC.b rfl rfl dX10_foretold_73 dX10_foretold_74 (by decide) (fun c_37 => ?_) (fun c_37 => ?_)
        · skip
          refine lv_lload_n hC.x hC.b dX10_foretold_82 rfl (lv_at hl 0 rfl) ?_
          refine lv_l2i hC.x hC.b dX10_foretold_83 rfl ?_
          exact reti hC hK hR hS (⟨by first | exact ftm_0 hA (by omega) | exact ftm_g hxb (by assumption) ho (by assumption) hA (by omega) (by assumption) (by first | exact Or.inl ⟨by omega, rfl⟩ | exact Or.inr (Or.inl ⟨by omega, rfl⟩) | exact Or.inr (Or.inr ⟨by omega, by omega, rfl⟩)) | exact ftm_x (pX_R hxb) ho (by assumption) hA (by omega) (by first | exact Or.inl ⟨by omega, rfl⟩ | exact Or.inr (Or.inl ⟨by omega, rfl⟩) | exact Or.inr (Or.inr ⟨by omega, by omega, rfl⟩)), by exact (MRel.tr MRel.rf f_31)⟩) dX10_foretold_84
        · skip
          refine lv_ldc hC.x hC.b hC.ow (hC.ts _ TK_X10_209) dX10_foretold_77 ?_
          refine lv_goto (tgt := 84) hC.x hC.b dX10_foretold_79 (by decide) ?_
          exact reti hC hK hR hS (⟨by first | exact ftm_0 hA (by omega) | exact ftm_g hxb (by assumption) ho (by assumption) hA (by omega) (by assumption) (by first | exact Or.inl ⟨by omega, rfl⟩ | exact Or.inr (Or.inl ⟨by omega, rfl⟩) | exact Or.inr (Or.inr ⟨by omega, by omega, rfl⟩)) | exact ftm_x (pX_R hxb) ho (by assumption) hA (by omega) (by first | exact Or.inl ⟨by omega, rfl⟩ | exact Or.inr (Or.inl ⟨by omega, rfl⟩) | exact Or.inr (Or.inr ⟨by omega, by omega, rfl⟩)), by exact (MRel.tr MRel.rf f_31)⟩) dX10_foretold_84
      · skip
        refine lv_ldc hC.x hC.b hC.ow (hC.ts _ TK_X10_206) dX10_foretold_64 ?_
        refine lv_goto (tgt := 84) hC.x hC.b dX10_foretold_66 (by decide) ?_
        exact reti hC hK hR hS (⟨by first | exact ftm_0 hA (by omega) | exact ftm_g hxb (by assumption) ho (by assumption) hA (by omega) (by assumption) (by first | exact Or.inl ⟨by omega, rfl⟩ | exact Or.inr (Or.inl ⟨by omega, rfl⟩) | exact Or.inr (Or.inr ⟨by omega, by omega, rfl⟩)) | exact ftm_x (pX_R hxb) ho (by assumption) hA (by omega) (by first | exact Or.inl ⟨by omega, rfl⟩ | exact Or.inr (Or.inl ⟨by omega, rfl⟩) | exact Or.inr (Or.inr ⟨by omega, by omega, rfl⟩)), by exact (MRel.tr MRel.rf f_31)⟩) dX10_foretold_84
    · skip
      refine lv_ldc hC.x hC.b hC.ow (hC.ts _ TK_X10_203) dX10_foretold_19 ?_
      exact reti hC hK hR hS (⟨by first | exact ftm_0 hA (by omega) | exact ftm_g hxb (by assumption) ho (by assumption) hA (by omega) (by assumption) (by first | exact Or.inl ⟨by omega, rfl⟩ | exact Or.inr (Or.inl ⟨by omega, rfl⟩) | exact Or.inr (Or.inr ⟨by omega, by omega, rfl⟩)) | exact ftm_x (pX_R hxb) ho (by assumption) hA (by omega) (by first | exact Or.inl ⟨by omega, rfl⟩ | exact Or.inr (Or.inl ⟨by omega, rfl⟩) | exact Or.inr (Or.inr ⟨by omega, by omega, rfl⟩)), by exact (MRel.tr MRel.rf f_31)⟩) dX10_foretold_21

abbrev po5_X10_full (σ : SI) (τ : SL) (pl : Int32) (q : Nat) : Int32 → SI × SL → Prop := fun v u => ((v = (FW6 (σ 41 q).toInt (FT (pX σ q) (σ 37 q).toInt (σ 35 29).toInt (σ 36 q).toInt) (pM σ q) (σ 38 q).toInt (σ 35 29).toInt)) ∧ (MRel (fun _ => False) (fun j => j = 44) σ u.1))
set_option maxRecDepth 100000 in
set_option maxHeartbeats 4000000 in
theorem c5_X10_full (l : Launch) {G : Gx} {A : Nat → Prop} (hG : GOk G A) (σ : SI) (τ : SL) (pl : Int32) (q : Nat) (hp_q : pl.toInt.toNat = q) (hnw : 0 ≤ (σ 35 29).toInt ∧ (σ 35 29).toInt ≤ 200) (hin : 0 ≤ pl.toInt ∧ pl.toInt < 24) (ho : 2 ≤ (σ 37 q).toInt ∧ (σ 37 q).toInt ≤ 12) (hkm : KM σ) (hxb : XB σ) (hrc : 1 ≤ (σ 38 q).toInt ∧ (σ 38 q).toInt ≤ 12) : MI l G A 5 yX10_full cX10_full 7 (some .int) [.ref (G.2.1 35), .int pl] (σ, τ) (po5_X10_full σ τ pl q) := by
  refine met_of (own := RX10) (by decide +kernel) rfl [(0, .ref (G.2.1 35)), (1, .int pl)] rfl (Nat.le_of_ble_eq_true rfl) ?_
  intro p e s m args below meth c ls hC hK hR hl
  have hS : va_S A s.heap s.heap [] := va_S.rf
  refine lv_aload_n hC.x hC.b dX10_full_0 rfl (lv_at hl 0 rfl) ?_
  refine rget hC hK hR (ct_model G _ _) rfl uin_X10 5 (by decide) TF_X10_26 rfl dX10_full_1 ?_
  refine lv_iload_n hC.x hC.b dX10_full_4 rfl (lv_at hl 1 rfl) ?_
  refine zald hC hK hR (ct_m_isOut G _ _) rfl (by omega) (by omega) hp_q dX10_full_5 ?_
  refine bz_ne (tgt := 19) (a := (σ 41 q).toInt) (b := 0) hC.x hC.b rfl rfl dX10_full_6 (by decide) (fun c_1 => ?_) (fun c_1 => ?_)
  · skip
    refine lv_iconst (v := 0) hC.x hC.b dX10_full_19 (by decide) ?_
    exact reti hC hK hR hS (⟨by first | exact fw_a (by omega) | ((have e8 : n = (σ 38 q).toInt.toNat := by omega); (have e9 : n2 = (σ 38 q).toInt.toNat := by omega); subst e8; subst e9; first | exact fwm_1 (by omega) (by omega) hi1_107 (by omega) | exact fwm_v (pM_R hkm) hrc (by omega) (by omega) hi1_107 (by omega) hi2_36 (by assumption) (by first | exact Or.inl ⟨by omega, rfl⟩ | exact Or.inr ⟨by omega, rfl⟩)), by exact MRel.rf⟩) dX10_full_20
  · skip
    refine lv_aload_n hC.x hC.b dX10_full_9 rfl (lv_at hl 0 rfl) ?_
    refine lv_iload_n hC.x hC.b dX10_full_10 rfl (lv_at hl 1 rfl) ?_
    refine goi (runV (As := [.int pl]) (rest := []) hC hK hR hl.1 (c5_X10_foretold l hG σ τ pl q (by first | rfl | (rw [show pl.toInt = pl.toInt from rfl]; done) | (rw [show pl.toInt = pl.toInt from rfl]; exact hp_q)) (by first | assumption | omega) (by omega) (by first | assumption | omega) (by first | assumption)) (call_b hC.ts TC_X10_foretold TN_X10 TM_X10_210 hd_X10_foretold ⟨Nat.le_of_ble_eq_true rfl, Nat.le_of_ble_eq_true rfl⟩) TI_X10_foretold TS_X10_foretold (ct_model G _ _) rfl rfl rfl (Nat.le_of_ble_eq_true rfl) dX10_full_11 ⟨Nat.le_of_ble_eq_true rfl, Nat.le_of_ble_eq_true rfl⟩) hS (fun v_2 s_4 t_5 H locs w_3 hR hS => ?_)
    try dsimp only [po5_X10_foretold] at w_3
    obtain ⟨rfl, f_6⟩ := w_3
    refine lv_ldc hC.x hC.b hC.ow (hC.ts _ TK_X10_203) dX10_full_14 ?_
    refine bi_ne (tgt := 21) (a := (FT (pX σ q) (σ 37 q).toInt (σ 35 29).toInt (σ 36 q).toInt).toInt) (b := 2000000000) hC.x hC.b rfl rfl dX10_full_16 (by decide) (fun c_7 => ?_) (fun c_7 => ?_)
    · skip
      refine lv_lconst (v := 1) hC.x hC.b dX10_full_21 (by decide) ?_
      refine lv_lstore_n (lv' := [(2, .long (1 : Int64)), (0, .ref (G.2.1 35)), (1, .int pl)]) hC.x hC.b dX10_full_22 rfl hl (by decide) rfl (fun ls hl => ?_)
      refine lv_aload_n hC.x hC.b dX10_full_23 rfl (lv_at hl 1 rfl) ?_
      refine rget hC hK hR (ct_model G _ _) rfl uin_X10 29 (by decide) TF_X10_137 rfl dX10_full_24 ?_
      have rd_8 : (s_4 35 29).toInt = (σ 35 29).toInt := congrArg Int32.toInt (show s_4 35 29 = σ 35 29 from f_6.2 29 (by first | omega | (dsimp only; omega)))
      refine lv_aload_n hC.x hC.b dX10_full_27 rfl (lv_at hl 1 rfl) ?_
      refine rget hC hK hR (ct_model G _ _) rfl uin_X10 2 (by decide) TF_X10_16 rfl dX10_full_28 ?_
      refine lv_iload_n hC.x hC.b dX10_full_31 rfl (lv_at hl 2 rfl) ?_
      refine ald hC hK hR (ct_m_two G _ _) rfl (by omega) (by omega) hp_q dX10_full_32 ?_
      have rd_9 : (s_4 38 q).toInt = (σ 38 q).toInt := congrArg Int32.toInt (show s_4 38 q = σ 38 q from congrFun (f_6.1 38 (by omega) (by first | omega | (dsimp only; omega) | (intro h; exact h))) q)
      refine lv_isub hC.x hC.b dX10_full_33 ?_
      have pr_10 : ((s_4 35 29) - (s_4 38 q)).toInt = ((s_4 35 29).toInt - (s_4 38 q).toInt) := subI rfl rfl (by omega) (by omega)
      refine lv_topi (fun x_11 ex_12 => ?_)
      have pr_13 : x_11.toInt = ((s_4 35 29).toInt - (s_4 38 q).toInt) := by rw [ex_12]; exact pr_10
      refine lv_istore (lv' := [(4, .int x_11), (2, .long (1 : Int64)), (0, .ref (G.2.1 35)), (1, .int pl)]) hC.x hC.b dX10_full_34 hl (by decide) rfl (fun ls hl => ?_)
      have L_36 : ∀ (F : Nat) (n : Nat) (x2 : Int64) (t : Int32), (((σ 35 29).toInt - t.toInt).toNat) < F → (1 ≤ x2.toInt ∧ x2.toInt ≤ 1 + 900000000 * max 0 t.toInt) → (t.toInt = ((σ 35 29).toInt - (σ 38 q).toInt) + n ∧ (n : Int) ≤ (σ 38 q).toInt) → (x2 = 1 + (MG (pM σ q) ((σ 35 29).toInt - (σ 38 q).toInt) n).2.2) → ∀ (H : Heap) (locs : List Loc) (ls : Array Slot), RepH G s_4 t_5 H → va_S A s.heap H locs → lv_has ls 7 [(0, .ref (G.2.1 35)), (1, .int pl), (2, .long x2), (4, .int t)] → W p l e (rmD 5) s m args below meth c H locs 0 0 (MQ below (va_Qi (po5_X10_full σ τ pl q) (BU G) A) args s 0 0 A) (F0 m 36 ls []) := by
        intro F
        induction F with
        | zero => intro n x2 t hm; exact absurd hm (Nat.not_lt_zero _)
        | succ F ih_36 =>
          intro n x2 t hm_36 hi0_36 hi1_36 hi2_36 H locs ls hR hS hl
          have tlo := i32_lo t
          refine lv_iload hC.x hC.b dX10_full_36 (lv_at hl 3 rfl) ?_
          refine lv_aload_n hC.x hC.b dX10_full_38 rfl (lv_at hl 0 rfl) ?_
          refine rget hC hK hR (ct_model G _ _) rfl uin_X10 29 (by decide) TF_X10_137 rfl dX10_full_39 ?_
          have rd_14 : (s_4 35 29).toInt = (σ 35 29).toInt := congrArg Int32.toInt (show s_4 35 29 = σ 35 29 from f_6.2 29 (by first | omega | (dsimp only; omega)))
          refine bi_ge (tgt := 91) (a := t.toInt) (b := (s_4 35 29).toInt) hC.x hC.b rfl rfl dX10_full_42 (by decide) (fun c_15 => ?_) (fun c_15 => ?_)
          · skip
            refine lv_iconst (v := 0) hC.x hC.b dX10_full_91 (by decide) ?_
            refine lv_istore (lv' := [(4, .int (0 : Int32)), (0, .ref (G.2.1 35)), (1, .int pl), (2, .long x2)]) hC.x hC.b dX10_full_92 hl (by decide) rfl (fun ls hl => ?_)
            refine lv_aload_n hC.x hC.b dX10_full_94 rfl (lv_at hl 1 rfl) ?_
            refine rget hC hK hR (ct_model G _ _) rfl uin_X10 29 (by decide) TF_X10_137 rfl dX10_full_95 ?_
            have rd_16 : (s_4 35 29).toInt = (σ 35 29).toInt := congrArg Int32.toInt (show s_4 35 29 = σ 35 29 from f_6.2 29 (by first | omega | (dsimp only; omega)))
            refine lv_aload_n hC.x hC.b dX10_full_98 rfl (lv_at hl 1 rfl) ?_
            refine rget hC hK hR (ct_model G _ _) rfl uin_X10 2 (by decide) TF_X10_16 rfl dX10_full_99 ?_
            refine lv_iload_n hC.x hC.b dX10_full_102 rfl (lv_at hl 2 rfl) ?_
            refine ald hC hK hR (ct_m_two G _ _) rfl (by omega) (by omega) hp_q dX10_full_103 ?_
            have rd_17 : (s_4 38 q).toInt = (σ 38 q).toInt := congrArg Int32.toInt (show s_4 38 q = σ 38 q from congrFun (f_6.1 38 (by omega) (by first | omega | (dsimp only; omega) | (intro h; exact h))) q)
            refine lv_isub hC.x hC.b dX10_full_104 ?_
            have pr_18 : ((s_4 35 29) - (s_4 38 q)).toInt = ((s_4 35 29).toInt - (s_4 38 q).toInt) := subI rfl rfl (by omega) (by omega)
            refine lv_topi (fun x_19 ex_20 => ?_)
            have pr_21 : x_19.toInt = ((s_4 35 29).toInt - (s_4 38 q).toInt) := by rw [ex_20]; exact pr_18
            refine lv_istore (lv' := [(5, .int x_19), (4, .int (0 : Int32)), (0, .ref (G.2.1 35)), (1, .int pl), (2, .long x2)]) hC.x hC.b dX10_full_105 hl (by decide) rfl (fun ls hl => ?_)
            have L_107 : ∀ (F : Nat) (n2 : Nat) (x4 : Int32) (t : Int32), (((σ 35 29).toInt - t.toInt).toNat) < F → (t.toInt = ((σ 35 29).toInt - (σ 38 q).toInt) + n2 ∧ (n2 : Int) ≤ (σ 38 q).toInt) → (flM x4 (MG (pM σ q) ((σ 35 29).toInt - (σ 38 q).toInt) n2)) → ∀ (H : Heap) (locs : List Loc) (ls : Array Slot), RepH G s_4 t_5 H → va_S A s.heap H locs → lv_has ls 7 [(0, .ref (G.2.1 35)), (1, .int pl), (2, .long x2), (4, .int x4), (5, .int t)] → W p l e (rmD 5) s m args below meth c H locs 0 0 (MQ below (va_Qi (po5_X10_full σ τ pl q) (BU G) A) args s 0 0 A) (F0 m 107 ls []) := by
              intro F
              induction F with
              | zero => intro n2 x4 t hm; exact absurd hm (Nat.not_lt_zero _)
              | succ F ih_107 =>
                intro n2 x4 t hm_107 hi0_107 hi1_107 H locs ls hR hS hl
                refine lv_iload hC.x hC.b dX10_full_107 (lv_at hl 4 rfl) ?_
                refine lv_aload_n hC.x hC.b dX10_full_109 rfl (lv_at hl 0 rfl) ?_
                refine rget hC hK hR (ct_model G _ _) rfl uin_X10 29 (by decide) TF_X10_137 rfl dX10_full_110 ?_
                have rd_22 : (s_4 35 29).toInt = (σ 35 29).toInt := congrArg Int32.toInt (show s_4 35 29 = σ 35 29 from f_6.2 29 (by first | omega | (dsimp only; omega)))
                refine bi_ge (tgt := 144) (a := t.toInt) (b := (s_4 35 29).toInt) hC.x hC.b rfl rfl dX10_full_113 (by decide) (fun c_23 => ?_) (fun c_23 => ?_)
                · skip
                  refine lv_iload hC.x hC.b dX10_full_144 (lv_at hl 3 rfl) ?_
                  refine bz_ne (tgt := 151) (a := x4.toInt) (b := 0) hC.x hC.b rfl rfl dX10_full_146 (by decide) (fun c_24 => ?_) (fun c_24 => ?_)
                  · skip
                    refine lv_ldc2 hC.x hC.b hC.ow (hC.ts _ TK_X10_217) dX10_full_151 ?_
                    refine lv_lload_n hC.x hC.b dX10_full_154 rfl (lv_at hl 2 rfl) ?_
                    refine lv_ldiv hC.x hC.b dX10_full_155 (ne0L rfl (by omega)) ?_
                    refine lv_topl (fun x_25 ex_26 => ?_)
                    refine lv_lstore (lv' := [(5, .long x_25), (0, .ref (G.2.1 35)), (1, .int pl), (2, .long x2), (4, .int x4)]) hC.x hC.b dX10_full_156 hl (by decide) rfl (fun ls hl => ?_)
                    refine lv_lload hC.x hC.b dX10_full_158 (lv_at hl 0 rfl) ?_
                    refine lv_lconst (v := 1) hC.x hC.b dX10_full_160 (by decide) ?_
                    refine bl_ge (tgt := 169) (a := x_25.toInt) (b := 1) hC.x hC.b rfl rfl dX10_full_161 dX10_full_162 (by decide) (fun c_27 => ?_) (fun c_27 => ?_)
                    · skip
                      refine lv_lload hC.x hC.b dX10_full_169 (lv_at hl 0 rfl) ?_
                      refine lv_l2i hC.x hC.b dX10_full_171 rfl ?_
                      exact reti hC hK hR hS (⟨by first | exact fw_a (by omega) | ((have e8 : n = (σ 38 q).toInt.toNat := by omega); (have e9 : n2 = (σ 38 q).toInt.toNat := by omega); subst e8; subst e9; first | exact fwm_1 (by omega) (by omega) hi1_107 (by omega) | exact fwm_v (pM_R hkm) hrc (by omega) (by omega) hi1_107 (by omega) hi2_36 (by assumption) (by first | exact Or.inl ⟨by omega, rfl⟩ | exact Or.inr ⟨by omega, rfl⟩)), by exact (MRel.tr MRel.rf f_6)⟩) dX10_full_172
                    · skip
                      refine lv_iconst (v := 1) hC.x hC.b dX10_full_165 (by decide) ?_
                      refine lv_goto (tgt := 172) hC.x hC.b dX10_full_166 (by decide) ?_
                      exact reti hC hK hR hS (⟨by first | exact fw_a (by omega) | ((have e8 : n = (σ 38 q).toInt.toNat := by omega); (have e9 : n2 = (σ 38 q).toInt.toNat := by omega); subst e8; subst e9; first | exact fwm_1 (by omega) (by omega) hi1_107 (by omega) | exact fwm_v (pM_R hkm) hrc (by omega) (by omega) hi1_107 (by omega) hi2_36 (by assumption) (by first | exact Or.inl ⟨by omega, rfl⟩ | exact Or.inr ⟨by omega, rfl⟩)), by exact (MRel.tr MRel.rf f_6)⟩) dX10_full_172
                  · skip
                    refine lv_iconst (v := 1) hC.x hC.b dX10_full_149 (by decide) ?_
                    exact reti hC hK hR hS (⟨by first | exact fw_a (by omega) | ((have e8 : n = (σ 38 q).toInt.toNat := by omega); (have e9 : n2 = (σ 38 q).toInt.toNat := by omega); subst e8; subst e9; first | exact fwm_1 (by omega) (by omega) hi1_107 (by omega) | exact fwm_v (pM_R hkm) hrc (by omega) (by omega) hi1_107 (by omega) hi2_36 (by assumption) (by first | exact Or.inl ⟨by omega, rfl⟩ | exact Or.inr ⟨by omega, rfl⟩)), by exact (MRel.tr MRel.rf f_6)⟩) dX10_full_150
                · skip
                  refine lv_iload hC.x hC.b dX10_full_116 (lv_at hl 3 rfl) ?_
                  refine bz_ne (tgt := 131) (a := x4.toInt) (b := 0) hC.x hC.b rfl rfl dX10_full_118 (by decide) (fun c_28 => ?_) (fun c_28 => ?_)
                  · skip
                    refine lv_iconst (v := 1) hC.x hC.b dX10_full_131 (by decide) ?_
                    refine lv_goto (tgt := 136) hC.x hC.b dX10_full_132 (by decide) ?_
                    refine lv_istore (lv' := [(4, .int (1 : Int32)), (0, .ref (G.2.1 35)), (1, .int pl), (2, .long x2), (5, .int t)]) hC.x hC.b dX10_full_136 hl (by decide) rfl (fun ls hl => ?_)
                    obtain ⟨x_29, ex_30⟩ : ∃ y : Int32, y = t + 1 := ⟨_, rfl⟩
                    have pr_31 : x_29.toInt = t.toInt + (1) := by rw [ex_30]; exact addI rfl rfl (by omega) (by omega)
                    refine lv_iinc (v := x_29) (lv' := [(5, .int x_29), (4, .int (1 : Int32)), (0, .ref (G.2.1 35)), (1, .int pl), (2, .long x2)]) hC.x hC.b dX10_full_138 hl (k := 4) rfl ex_30.symm (by decide) rfl (fun ls hl => ?_)
                    refine lv_goto (tgt := 107) hC.x hC.b dX10_full_141 (by decide) ?_
                    exact ih_107 (n2 + 1) (1 : Int32) x_29 (by omega) (by first | omega | assumption) (by first | exact flM.k (pM_R hkm) (by omega) hi1_107 (by omega) hi0_107.1 | exact flM.y (pM_R hkm) (by omega) hi1_107 hi0_107.1 (pmy hkm (by assumption) (by assumption)) | exact flM.n0 hi1_107 (by omega) hi0_107.1 (pmn (by assumption) (by assumption))) _ _ _ hR hS (lv_sub hl [2, 3, 4, 1, 0] rfl)
                  · skip
                    refine lv_aload_n hC.x hC.b dX10_full_121 rfl (lv_at hl 0 rfl) ?_
                    refine lv_iload hC.x hC.b dX10_full_122 (lv_at hl 4 rfl) ?_
                    refine lv_iload_n hC.x hC.b dX10_full_124 rfl (lv_at hl 1 rfl) ?_
                    have rd_32 : (s_4 35 29).toInt = (σ 35 29).toInt := congrArg Int32.toInt (show s_4 35 29 = σ 35 29 from f_6.2 29 (by first | omega | (dsimp only; omega)))
                    refine goip (runV (As := [.int t, .int pl]) (rest := []) hC hK hR hl.1 (c5_X10_isMissed l hG s_4 t_5 t t.toInt.toNat rfl pl q (by first | rfl | (rw [show pl.toInt = pl.toInt from rfl]; done) | (rw [show pl.toInt = pl.toInt from rfl]; exact hp_q)) (by first | assumption | omega) (by omega)) (call_b hC.ts TC_X10_isMissed TN_X10 TM_X10_214 hd_X10_isMissed ⟨Nat.le_of_ble_eq_true rfl, Nat.le_of_ble_eq_true rfl⟩) TI_X10_isMissed TS_X10_isMissed (ct_model G _ _) rfl rfl rfl (Nat.le_of_ble_eq_true rfl) dX10_full_125 ⟨Nat.le_of_ble_eq_true rfl, Nat.le_of_ble_eq_true rfl⟩) hS (fun v_33 H locs w_34 hR hS => ?_)
                    rcases w_34 with ⟨rfl, f_35, f_36, f_37⟩ | ⟨rfl, f_38⟩
                    · skip
                      refine bz_eq (tgt := 135) (a := 1) (b := 0) hC.x hC.b rfl rfl dX10_full_128 (by decide) (fun c_39 => absurd c_39 (by decide)) (fun _ => ?_)
                      refine lv_iconst (v := 1) hC.x hC.b dX10_full_131 (by decide) ?_
                      refine lv_goto (tgt := 136) hC.x hC.b dX10_full_132 (by decide) ?_
                      refine lv_istore (lv' := [(4, .int (1 : Int32)), (0, .ref (G.2.1 35)), (1, .int pl), (2, .long x2), (5, .int t)]) hC.x hC.b dX10_full_136 hl (by decide) rfl (fun ls hl => ?_)
                      obtain ⟨x_40, ex_41⟩ : ∃ y : Int32, y = t + 1 := ⟨_, rfl⟩
                      have pr_42 : x_40.toInt = t.toInt + (1) := by rw [ex_41]; exact addI rfl rfl (by omega) (by omega)
                      refine lv_iinc (v := x_40) (lv' := [(5, .int x_40), (4, .int (1 : Int32)), (0, .ref (G.2.1 35)), (1, .int pl), (2, .long x2)]) hC.x hC.b dX10_full_138 hl (k := 4) rfl ex_41.symm (by decide) rfl (fun ls hl => ?_)
                      refine lv_goto (tgt := 107) hC.x hC.b dX10_full_141 (by decide) ?_
                      exact ih_107 (n2 + 1) (1 : Int32) x_40 (by omega) (by first | omega | assumption) (by first | exact flM.k (pM_R hkm) (by omega) hi1_107 (by omega) hi0_107.1 | exact flM.y (pM_R hkm) (by omega) hi1_107 hi0_107.1 (pmy hkm (by assumption) (by assumption)) | exact flM.n0 hi1_107 (by omega) hi0_107.1 (pmn (by assumption) (by assumption))) _ _ _ hR hS (lv_sub hl [2, 3, 4, 1, 0] rfl)
                    · skip
                      refine bz_eq (tgt := 135) (a := 0) (b := 0) hC.x hC.b rfl rfl dX10_full_128 (by decide) (fun _ => ?_) (fun c_43 => absurd c_43 (by decide))
                      refine lv_iconst (v := 0) hC.x hC.b dX10_full_135 (by decide) ?_
                      refine lv_istore (lv' := [(4, .int (0 : Int32)), (0, .ref (G.2.1 35)), (1, .int pl), (2, .long x2), (5, .int t)]) hC.x hC.b dX10_full_136 hl (by decide) rfl (fun ls hl => ?_)
                      obtain ⟨x_44, ex_45⟩ : ∃ y : Int32, y = t + 1 := ⟨_, rfl⟩
                      have pr_46 : x_44.toInt = t.toInt + (1) := by rw [ex_45]; exact addI rfl rfl (by omega) (by omega)
                      refine lv_iinc (v := x_44) (lv' := [(5, .int x_44), (4, .int (0 : Int32)), (0, .ref (G.2.1 35)), (1, .int pl), (2, .long x2)]) hC.x hC.b dX10_full_138 hl (k := 4) rfl ex_45.symm (by decide) rfl (fun ls hl => ?_)
                      refine lv_goto (tgt := 107) hC.x hC.b dX10_full_141 (by decide) ?_
                      exact ih_107 (n2 + 1) (0 : Int32) x_44 (by omega) (by first | omega | assumption) (by first | exact flM.k (pM_R hkm) (by omega) hi1_107 (by omega) hi0_107.1 | exact flM.y (pM_R hkm) (by omega) hi1_107 hi0_107.1 (pmy hkm (by assumption) (by assumption)) | exact flM.n0 hi1_107 (by omega) hi0_107.1 (pmn (by assumption) (by assumption))) _ _ _ hR hS (lv_sub hl [2, 3, 4, 1, 0] rfl)
            exact L_107 _ 0 (0 : Int32) x_19 (Nat.lt_succ_self _) (by first | omega | assumption) (by exact flM.z) _ _ _ hR hS (lv_sub hl [2, 3, 4, 1, 0] rfl)
          · skip
            refine lv_aload_n hC.x hC.b dX10_full_45 rfl (lv_at hl 0 rfl) ?_
            refine lv_iload hC.x hC.b dX10_full_46 (lv_at hl 3 rfl) ?_
            refine lv_iload_n hC.x hC.b dX10_full_48 rfl (lv_at hl 1 rfl) ?_
            have rd_47 : (s_4 35 29).toInt = (σ 35 29).toInt := congrArg Int32.toInt (show s_4 35 29 = σ 35 29 from f_6.2 29 (by first | omega | (dsimp only; omega)))
            refine goip (runV (As := [.int t, .int pl]) (rest := []) hC hK hR hl.1 (c5_X10_isMissed l hG s_4 t_5 t t.toInt.toNat rfl pl q (by first | rfl | (rw [show pl.toInt = pl.toInt from rfl]; done) | (rw [show pl.toInt = pl.toInt from rfl]; exact hp_q)) (by first | assumption | omega) (by omega)) (call_b hC.ts TC_X10_isMissed TN_X10 TM_X10_214 hd_X10_isMissed ⟨Nat.le_of_ble_eq_true rfl, Nat.le_of_ble_eq_true rfl⟩) TI_X10_isMissed TS_X10_isMissed (ct_model G _ _) rfl rfl rfl (Nat.le_of_ble_eq_true rfl) dX10_full_49 ⟨Nat.le_of_ble_eq_true rfl, Nat.le_of_ble_eq_true rfl⟩) hS (fun v_48 H locs w_49 hR hS => ?_)
            rcases w_49 with ⟨rfl, f_50, f_51, f_52⟩ | ⟨rfl, f_53⟩
            · skip
              refine bz_eq (tgt := 85) (a := 1) (b := 0) hC.x hC.b rfl rfl dX10_full_52 (by decide) (fun c_54 => absurd c_54 (by decide)) (fun _ => ?_)
              refine lv_lload_n hC.x hC.b dX10_full_55 rfl (lv_at hl 2 rfl) ?_
              refine lv_aload_n hC.x hC.b dX10_full_56 rfl (lv_at hl 0 rfl) ?_
              refine rget hC hK hR (ct_model G _ _) rfl uin_X10 20 (by decide) TF_X10_71 rfl dX10_full_57 ?_
              refine lv_aload_n hC.x hC.b dX10_full_60 rfl (lv_at hl 0 rfl) ?_
              refine lv_iload hC.x hC.b dX10_full_61 (lv_at hl 3 rfl) ?_
              refine lv_iload_n hC.x hC.b dX10_full_63 rfl (lv_at hl 1 rfl) ?_
              refine goip (runV (As := [.int t, .int pl]) (rest := [.ref (G.2.1 56), .long x2]) hC hK hR hl.1 (c_X10_at l hG s_4 t_5 t t.toInt.toNat rfl pl q (by first | rfl | (rw [show pl.toInt = pl.toInt from rfl]; done) | (rw [show pl.toInt = pl.toInt from rfl]; exact hp_q)) (by omega) (by omega)) (call_b hC.ts TC_X10_at TN_X10 TM_X10_140 hd_X10_at ⟨Nat.le_of_ble_eq_true rfl, Nat.le_of_ble_eq_true rfl⟩) TI_X10_at TS_X10_at (ct_model G _ _) rfl rfl rfl (Nat.le_of_ble_eq_true rfl) dX10_full_64 ⟨Nat.le_of_ble_eq_true rfl, Nat.le_of_ble_eq_true rfl⟩) hS (fun v_55 H locs w_56 hR hS => ?_)
              subst w_56
              refine ald hC hK hR (ct_m_ms G _ _) (nI_T _ (by omega)) (by omega) (by omega) (Int.toNat_natCast _) dX10_full_67 ?_
              have rd_57 : (s_4 56 (24 * t.toInt.toNat + q)).toInt = (σ 56 (24 * t.toInt.toNat + q)).toInt := congrArg Int32.toInt (show s_4 56 (24 * t.toInt.toNat + q) = σ 56 (24 * t.toInt.toNat + q) from congrFun (f_6.1 56 (by omega) (by first | omega | (dsimp only; omega) | (intro h; exact h))) (24 * t.toInt.toNat + q))
              refine lv_i2l hC.x hC.b dX10_full_68 rfl ?_
              refine lv_aload_n hC.x hC.b dX10_full_69 rfl (lv_at hl 0 rfl) ?_
              refine rget hC hK hR (ct_model G _ _) rfl uin_X10 20 (by decide) TF_X10_71 rfl dX10_full_70 ?_
              refine lv_aload_n hC.x hC.b dX10_full_73 rfl (lv_at hl 0 rfl) ?_
              refine lv_iload hC.x hC.b dX10_full_74 (lv_at hl 3 rfl) ?_
              refine lv_iload_n hC.x hC.b dX10_full_76 rfl (lv_at hl 1 rfl) ?_
              refine goip (runV (As := [.int t, .int pl]) (rest := [.ref (G.2.1 56), .long ((s_4 56 (24 * t.toInt.toNat + q)).toInt64), .long x2]) hC hK hR hl.1 (c_X10_at l hG s_4 t_5 t t.toInt.toNat rfl pl q (by first | rfl | (rw [show pl.toInt = pl.toInt from rfl]; done) | (rw [show pl.toInt = pl.toInt from rfl]; exact hp_q)) (by omega) (by omega)) (call_b hC.ts TC_X10_at TN_X10 TM_X10_140 hd_X10_at ⟨Nat.le_of_ble_eq_true rfl, Nat.le_of_ble_eq_true rfl⟩) TI_X10_at TS_X10_at (ct_model G _ _) rfl rfl rfl (Nat.le_of_ble_eq_true rfl) dX10_full_77 ⟨Nat.le_of_ble_eq_true rfl, Nat.le_of_ble_eq_true rfl⟩) hS (fun v_58 H locs w_59 hR hS => ?_)
              subst w_59
              refine ald hC hK hR (ct_m_ms G _ _) (nI_T _ (by omega)) (by omega) (by omega) (Int.toNat_natCast _) dX10_full_80 ?_
              have rd_60 : (s_4 56 (24 * t.toInt.toNat + q)).toInt = (σ 56 (24 * t.toInt.toNat + q)).toInt := congrArg Int32.toInt (show s_4 56 (24 * t.toInt.toNat + q) = σ 56 (24 * t.toInt.toNat + q) from congrFun (f_6.1 56 (by omega) (by first | omega | (dsimp only; omega) | (intro h; exact h))) (24 * t.toInt.toNat + q))
              refine lv_i2l hC.x hC.b dX10_full_81 rfl ?_
              have hmk := (KM.fr hkm f_6 (by first | omega | (dsimp only; omega) | exact fun q => q) (by first | omega | (dsimp only; omega) | exact fun q => q) (by first | omega | (dsimp only; omega) | exact fun q => q) (by first | omega | (dsimp only; omega))).1 (24 * t.toInt.toNat + q)
              have hmq := sqle (m := (s_4 56 (24 * t.toInt.toNat + q)).toInt) (B := 30000) (by omega) (by omega)
              refine lv_lmul hC.x hC.b dX10_full_82 ?_
              have pr_61 : ((s_4 56 (24 * t.toInt.toNat + q)).toInt64 * (s_4 56 (24 * t.toInt.toNat + q)).toInt64).toInt = ((s_4 56 (24 * t.toInt.toNat + q)).toInt * (s_4 56 (24 * t.toInt.toNat + q)).toInt) := mulL (i2lI rfl) (i2lI rfl) (by omega) (by omega)
              refine lv_ladd hC.x hC.b dX10_full_83 ?_
              have pr_62 : (x2 + ((s_4 56 (24 * t.toInt.toNat + q)).toInt64 * (s_4 56 (24 * t.toInt.toNat + q)).toInt64)).toInt = (x2.toInt + ((s_4 56 (24 * t.toInt.toNat + q)).toInt * (s_4 56 (24 * t.toInt.toNat + q)).toInt)) := addL rfl pr_61 (by omega) (by omega)
              refine lv_topl (fun x_63 ex_64 => ?_)
              have pr_65 : x_63.toInt = (x2.toInt + ((s_4 56 (24 * t.toInt.toNat + q)).toInt * (s_4 56 (24 * t.toInt.toNat + q)).toInt)) := by rw [ex_64]; exact pr_62
              refine lv_lstore_n (lv' := [(2, .long x_63), (0, .ref (G.2.1 35)), (1, .int pl), (4, .int t)]) hC.x hC.b dX10_full_84 rfl hl (by decide) rfl (fun ls hl => ?_)
              obtain ⟨x_66, ex_67⟩ : ∃ y : Int32, y = t + 1 := ⟨_, rfl⟩
              have pr_68 : x_66.toInt = t.toInt + (1) := by rw [ex_67]; exact addI rfl rfl (by omega) (by omega)
              refine lv_iinc (v := x_66) (lv' := [(4, .int x_66), (2, .long x_63), (0, .ref (G.2.1 35)), (1, .int pl)]) hC.x hC.b dX10_full_85 hl (k := 3) rfl ex_67.symm (by decide) rfl (fun ls hl => ?_)
              refine lv_goto (tgt := 36) hC.x hC.b dX10_full_88 (by decide) ?_
              exact ih_36 (n + 1) x_63 x_66 (by omega) (by first | omega | assumption) (by first | omega | assumption) (by first | exact mgm_n hi2_36 hi1_36.1 (pmn (by assumption) (by assumption)) | exact mgm_y hi2_36 hi1_36.1 (pmv (by assumption) (by assumption)) (pmy hkm (by assumption) (by assumption)) (by assumption)) _ _ _ hR hS (lv_sub hl [2, 3, 1, 0] rfl)
            · skip
              refine bz_eq (tgt := 85) (a := 0) (b := 0) hC.x hC.b rfl rfl dX10_full_52 (by decide) (fun _ => ?_) (fun c_69 => absurd c_69 (by decide))
              obtain ⟨x_70, ex_71⟩ : ∃ y : Int32, y = t + 1 := ⟨_, rfl⟩
              have pr_72 : x_70.toInt = t.toInt + (1) := by rw [ex_71]; exact addI rfl rfl (by omega) (by omega)
              refine lv_iinc (v := x_70) (lv' := [(4, .int x_70), (0, .ref (G.2.1 35)), (1, .int pl), (2, .long x2)]) hC.x hC.b dX10_full_85 hl (k := 3) rfl ex_71.symm (by decide) rfl (fun ls hl => ?_)
              refine lv_goto (tgt := 36) hC.x hC.b dX10_full_88 (by decide) ?_
              exact ih_36 (n + 1) x2 x_70 (by omega) (by first | omega | assumption) (by first | omega | assumption) (by first | exact mgm_n hi2_36 hi1_36.1 (pmn (by assumption) (by assumption)) | exact mgm_y hi2_36 hi1_36.1 (pmv (by assumption) (by assumption)) (pmy hkm (by assumption) (by assumption)) (by assumption)) _ _ _ hR hS (lv_sub hl [1, 2, 3, 0] rfl)
      exact L_36 _ 0 (1 : Int64) x_11 (Nat.lt_succ_self _) (by (have h1L : (1 : Int64).toInt = 1 := (by decide)); omega) (by first | omega | assumption) (by exact mgm_z) _ _ _ hR hS (lv_sub hl [2, 3, 1, 0] rfl)
    · skip
      refine lv_iconst (v := 0) hC.x hC.b dX10_full_19 (by decide) ?_
      exact reti hC hK hR hS (⟨by first | exact fw_a (by omega) | ((have e8 : n = (σ 38 q).toInt.toNat := by omega); (have e9 : n2 = (σ 38 q).toInt.toNat := by omega); subst e8; subst e9; first | exact fwm_1 (by omega) (by omega) hi1_107 (by omega) | exact fwm_v (pM_R hkm) hrc (by omega) (by omega) hi1_107 (by omega) hi2_36 (by assumption) (by first | exact Or.inl ⟨by omega, rfl⟩ | exact Or.inr ⟨by omega, rfl⟩)), by exact (MRel.tr MRel.rf f_6)⟩) dX10_full_20
abbrev po5_X10_common (σ : SI) (τ : SL) (xa : Int64) (ya : Int64) : Int64 → SI × SL → Prop := fun v u => u = (σ, τ) ∧ (v.toInt ≠ 0 ∧ (0 ≤ xa.toInt → 0 ≤ ya.toInt → v.toInt = (Int.gcd xa.toInt ya.toInt : Int)))
set_option maxRecDepth 100000 in
set_option maxHeartbeats 4000000 in
theorem cm5_step (l : Launch) {G : Gx} {A : Nat → Prop} (hG : GOk G A) (σ : SI) (τ : SL) (d : Nat) (xa : Int64) (ya : Int64) (hab : xa.toInt ≠ 0 ∨ ya.toInt ≠ 0) (hrec : ya.toInt ≠ 0 → ML l G A d yX10_common cX10_common 4 (some .long) [.long ya, .long (xa - xa / ya * ya)] (σ, τ) (po5_X10_common σ τ ya (xa - xa / ya * ya))) :
    ML l G A (d + 1) yX10_common cX10_common 4 (some .long) [.long xa, .long ya] (σ, τ) (po5_X10_common σ τ xa ya) := by
  refine met_of (own := RX10) (by decide +kernel) rfl [(0, .long xa), (2, .long ya)] rfl (Nat.le_of_ble_eq_true rfl) ?_
  intro p e s m args below meth c ls hC hK hR hl
  have hS : va_S A s.heap s.heap [] := va_S.rf
  refine lv_lload_n hC.x hC.b dX10_common_0 rfl (lv_at hl 1 rfl) ?_
  refine lv_lconst (v := 0) hC.x hC.b dX10_common_1 (by decide) ?_
  refine bl_ne (tgt := 10) (a := ya.toInt) (b := 0) hC.x hC.b rfl rfl dX10_common_2 dX10_common_3 (by decide) (fun c_1 => ?_) (fun c_1 => ?_)
  · refine lv_lload_n hC.x hC.b dX10_common_10 rfl (lv_at hl 1 rfl) ?_
    refine lv_lload_n hC.x hC.b dX10_common_11 rfl (lv_at hl 0 rfl) ?_
    refine lv_lload_n hC.x hC.b dX10_common_12 rfl (lv_at hl 1 rfl) ?_
    refine lv_lrem hC.x hC.b dX10_common_13 (ne0L rfl (by omega)) ?_
    refine golp (runS (As := [.long ya, .long (xa - xa / ya * ya)]) (rest := []) hC hK hR hl.1 (hrec (by omega)) (call_b (d := d) hC.ts TC_X10_common TN_X10 TM_X10_222 hd_X10_common ⟨Nat.le_refl _, by show 8 + (4 + 11) + 40 * d ≤ 40 * (d + 1); omega⟩) TT_X10_common rfl rfl (Nat.le_of_ble_eq_true rfl) dX10_common_14 ⟨Nat.zero_le _, Nat.zero_le _⟩) hS (fun v_2 H locs w_3 hR hS => ?_)
    exact retl hC hK hR hS ⟨rfl, w_3.1, fun h1 h2 => by
      have r := rem_T (x := xa) (y := ya) (by omega)
      have g := gcd_st (a := xa.toInt) (b := ya.toInt) h1 (by omega)
      have t0 : 0 ≤ xa.toInt.tmod ya.toInt := Int.tmod_nonneg _ h1
      rw [← g, ← r]
      exact w_3.2 h2 (by omega)⟩ dX10_common_17
  · refine lv_lload_n hC.x hC.b dX10_common_6 rfl (lv_at hl 0 rfl) ?_
    refine lv_goto (tgt := 17) hC.x hC.b dX10_common_7 (by decide) ?_
    exact retl hC hK hR hS ⟨rfl, by show xa.toInt ≠ 0; omega, fun h1 h2 => by
      have e : ya.toInt = 0 := by omega
      rw [e, Int.gcd_zero_right]
      omega⟩ dX10_common_17
theorem cm5_all (l : Launch) {G : Gx} {A : Nat → Prop} (hG : GOk G A) (σ : SI) (τ : SL) : ∀ (k : Nat) (xa ya : Int64), ya.toInt.natAbs < 2 ^ k → (xa.toInt ≠ 0 ∨ ya.toInt ≠ 0) →
    ML l G A (2 * k + 1) yX10_common cX10_common 4 (some .long) [.long xa, .long ya] (σ, τ) (po5_X10_common σ τ xa ya)
  | 0, xa, ya, h, hab => cm5_step l hG σ τ 0 xa ya hab (fun hy => absurd hy (by have h2 : ya.toInt.natAbs < 1 := h; omega))
  | k + 1, xa, ya, h, hab => by
    have e : 2 * (k + 1) + 1 = (2 * k + 2) + 1 := by omega
    rw [e]
    refine cm5_step l hG σ τ (2 * k + 2) xa ya hab (fun hy => ?_)
    have e2 : 2 * k + 2 = (2 * k + 1) + 1 := by omega
    rw [e2]
    refine cm5_step l hG σ τ (2 * k + 1) ya (xa - xa / ya * ya) (Or.inl hy) (fun hr => ?_)
    have h1 := rem_T (x := xa) hy
    have h2 := rem_T (x := ya) hr
    have h3 := tmod_lt (x := xa.toInt) hy
    rw [← h1] at h3
    have h4 := tmod_half h3 hr
    rw [← h2] at h4
    have h5 : (2 : Nat) ^ (k + 1) = 2 * 2 ^ k := by rw [Nat.pow_succ, Nat.mul_comm]
    exact cm5_all l hG σ τ k _ _ (by omega) (Or.inl hr)
theorem c5_X10_common (l : Launch) {G : Gx} {A : Nat → Prop} (hG : GOk G A) (σ : SI) (τ : SL) (xa : Int64) (ya : Int64) (hcb : -32768 < ya.toInt ∧ ya.toInt < 32768) (hab : xa.toInt ≠ 0 ∨ ya.toInt ≠ 0) : ML l G A 31 yX10_common cX10_common 4 (some .long) [.long xa, .long ya] (σ, τ) (po5_X10_common σ τ xa ya) :=
  cm5_all l hG σ τ 15 xa ya (by show ya.toInt.natAbs < 32768; omega) hab
abbrev po5_X10_foretell (σ : SI) (τ : SL) (pl : Int32) (q : Nat) : Int32 → SI × SL → Prop := fun v u => ((v = (-1)) ∧ (MRel (fun _ => False) (fun j => j = 44) σ u.1) ∧ (¬ (0 ≤ pl.toInt ∧ pl.toInt < 24) ∨ (σ 36 q).toInt = -1)) ∨ ((v = (-2)) ∧ (MRel (fun _ => False) (fun j => j = 44) σ u.1) ∧ (0 ≤ pl.toInt ∧ pl.toInt < 24) ∧ ((σ 36 q).toInt ≠ -1) ∧ (¬ (0 ≤ (σ 36 q).toInt ∧ (σ 36 q).toInt ≤ 3))) ∨ ((v = (FT (pX σ q) (σ 37 q).toInt (σ 35 29).toInt (σ 36 q).toInt)) ∧ (MRel (fun _ => False) (fun j => j = 44) σ u.1) ∧ (0 ≤ pl.toInt ∧ pl.toInt < 24) ∧ (0 ≤ (σ 36 q).toInt ∧ (σ 36 q).toInt ≤ 3))
set_option maxRecDepth 100000 in
set_option maxHeartbeats 4000000 in
theorem c5_X10_foretell (l : Launch) {G : Gx} {A : Nat → Prop} (hG : GOk G A) (σ : SI) (τ : SL) (pl : Int32) (q : Nat) (hp_q : pl.toInt.toNat = q) (hnw : 0 ≤ (σ 35 29).toInt ∧ (σ 35 29).toInt ≤ 200) (hcl : Cl6 σ) (hxb : XB σ) : MI l G A 5 yX10_foretell cX10_foretell 3 (some .int) [.ref (G.2.1 35), .int pl] (σ, τ) (po5_X10_foretell σ τ pl q) := by
  refine met_of (own := RX10) (by decide +kernel) rfl [(0, .ref (G.2.1 35)), (1, .int pl)] rfl (Nat.le_of_ble_eq_true rfl) ?_
  intro p e s m args below meth c ls hC hK hR hl
  have hS : va_S A s.heap s.heap [] := va_S.rf
  refine lv_aload_n hC.x hC.b dX10_foretell_0 rfl (lv_at hl 0 rfl) ?_
  refine lv_iload_n hC.x hC.b dX10_foretell_1 rfl (lv_at hl 1 rfl) ?_
  refine lv_iconst (v := 0) hC.x hC.b dX10_foretell_2 (by decide) ?_
  refine lv_iconst (v := 3) hC.x hC.b dX10_foretell_3 (by decide) ?_
  have av_1 : (0 : Int32).toInt = 0 := by decide
  have av_2 : (3 : Int32).toInt = 3 := by decide
  refine goip (runV (As := [.int pl, .int (0 : Int32), .int (3 : Int32)]) (rest := []) hC hK hR hl.1 (c_X10_fails l hG σ τ pl q (by first | rfl | (rw [show pl.toInt = pl.toInt from rfl]; done) | (rw [show pl.toInt = pl.toInt from rfl]; exact hp_q)) (0 : Int32) (3 : Int32) ) (call_b hC.ts TC_X10_fails TN_X10 TM_X10_144 hd_X10_fails ⟨Nat.le_of_ble_eq_true rfl, Nat.le_of_ble_eq_true rfl⟩) TI_X10_fails TS_X10_fails (ct_model G _ _) rfl rfl rfl (Nat.le_of_ble_eq_true rfl) dX10_foretell_4 ⟨Nat.le_of_ble_eq_true rfl, Nat.le_of_ble_eq_true rfl⟩) hS (fun v_3 H locs w_4 hR hS => ?_)
  rcases w_4 with ⟨rfl, f_5⟩ | ⟨rfl, f_6, f_7, f_8⟩ | ⟨rfl, f_9, f_10, f_11⟩
  · skip
    refine lv_istore_n (lv' := [(2, .int (-1 : Int32)), (0, .ref (G.2.1 35)), (1, .int pl)]) hC.x hC.b dX10_foretell_7 rfl hl (by decide) rfl (fun ls hl => ?_)
    refine lv_iload_n hC.x hC.b dX10_foretell_8 rfl (lv_at hl 0 rfl) ?_
    refine bz_eq (tgt := 16) (a := (-1)) (b := 0) hC.x hC.b rfl rfl dX10_foretell_9 (by decide) (fun c_12 => absurd c_12 (by decide)) (fun _ => ?_)
    refine lv_iload_n hC.x hC.b dX10_foretell_12 rfl (lv_at hl 0 rfl) ?_
    refine lv_goto (tgt := 21) hC.x hC.b dX10_foretell_13 (by decide) ?_
    exact reti hC hK hR hS (by first | exact Or.inl (⟨by rfl, by exact MRel.rf, by first | omega | assumption⟩) | exact Or.inr (Or.inr ((⟨by rfl, by exact MRel.rf, by first | omega | assumption, by first | omega | assumption⟩))) | exact False.elim (by omega)) dX10_foretell_21
  · skip
    refine lv_istore_n (lv' := [(2, .int (0 : Int32)), (0, .ref (G.2.1 35)), (1, .int pl)]) hC.x hC.b dX10_foretell_7 rfl hl (by decide) rfl (fun ls hl => ?_)
    refine lv_iload_n hC.x hC.b dX10_foretell_8 rfl (lv_at hl 0 rfl) ?_
    refine bz_eq (tgt := 16) (a := 0) (b := 0) hC.x hC.b rfl rfl dX10_foretell_9 (by decide) (fun _ => ?_) (fun c_13 => absurd c_13 (by decide))
    refine lv_aload_n hC.x hC.b dX10_foretell_16 rfl (lv_at hl 1 rfl) ?_
    refine lv_iload_n hC.x hC.b dX10_foretell_17 rfl (lv_at hl 2 rfl) ?_
    have hcq := hcl q (by omega) ⟨by omega, by omega⟩
    refine goi (runV (As := [.int pl]) (rest := []) hC hK hR hl.1 (c5_X10_foretold l hG σ τ pl q (by first | rfl | (rw [show pl.toInt = pl.toInt from rfl]; done) | (rw [show pl.toInt = pl.toInt from rfl]; exact hp_q)) (by first | assumption | omega) (by omega) (by first | assumption | omega) (by first | assumption)) (call_b hC.ts TC_X10_foretold TN_X10 TM_X10_210 hd_X10_foretold ⟨Nat.le_of_ble_eq_true rfl, Nat.le_of_ble_eq_true rfl⟩) TI_X10_foretold TS_X10_foretold (ct_model G _ _) rfl rfl rfl (Nat.le_of_ble_eq_true rfl) dX10_foretell_18 ⟨Nat.le_of_ble_eq_true rfl, Nat.le_of_ble_eq_true rfl⟩) hS (fun v_14 s_16 t_17 H locs w_15 hR hS => ?_)
    try dsimp only [po5_X10_foretold] at w_15
    obtain ⟨rfl, f_18⟩ := w_15
    exact reti hC hK hR hS (by first | exact Or.inl (⟨by rfl, by exact (MRel.tr MRel.rf f_18), by first | omega | assumption⟩) | exact Or.inr (Or.inl (⟨by rfl, by exact (MRel.tr MRel.rf f_18), by first | omega | assumption, by first | omega | assumption, by first | omega | assumption⟩)) | exact Or.inr (Or.inr ((⟨by rfl, by exact (MRel.tr MRel.rf f_18), by first | omega | assumption, by first | omega | assumption⟩))) | exact False.elim (by omega)) dX10_foretell_21
  · skip
    refine lv_istore_n (lv' := [(2, .int (-2 : Int32)), (0, .ref (G.2.1 35)), (1, .int pl)]) hC.x hC.b dX10_foretell_7 rfl hl (by decide) rfl (fun ls hl => ?_)
    refine lv_iload_n hC.x hC.b dX10_foretell_8 rfl (lv_at hl 0 rfl) ?_
    refine bz_eq (tgt := 16) (a := (-2)) (b := 0) hC.x hC.b rfl rfl dX10_foretell_9 (by decide) (fun c_19 => absurd c_19 (by decide)) (fun _ => ?_)
    refine lv_iload_n hC.x hC.b dX10_foretell_12 rfl (lv_at hl 0 rfl) ?_
    refine lv_goto (tgt := 21) hC.x hC.b dX10_foretell_13 (by decide) ?_
    exact reti hC hK hR hS (by first | exact Or.inr (Or.inl (⟨by rfl, by exact MRel.rf, by first | omega | assumption, by first | omega | assumption, by first | omega | assumption⟩)) | exact Or.inr (Or.inr ((⟨by rfl, by exact MRel.rf, by first | omega | assumption, by first | omega | assumption⟩))) | exact False.elim (by omega)) dX10_foretell_21

abbrev po5_X10_weight (σ : SI) (τ : SL) (pl : Int32) (q : Nat) : Int32 → SI × SL → Prop := fun v u => ((v = (-1)) ∧ (MRel (fun _ => False) (fun j => j = 44) σ u.1) ∧ (¬ (0 ≤ pl.toInt ∧ pl.toInt < 24) ∨ (σ 36 q).toInt = -1)) ∨ ((v = (-2)) ∧ (MRel (fun _ => False) (fun j => j = 44) σ u.1) ∧ (0 ≤ pl.toInt ∧ pl.toInt < 24) ∧ ((σ 36 q).toInt ≠ -1) ∧ (¬ (0 ≤ (σ 36 q).toInt ∧ (σ 36 q).toInt ≤ 3))) ∨ ((v = (FW6 (σ 41 q).toInt (FT (pX σ q) (σ 37 q).toInt (σ 35 29).toInt (σ 36 q).toInt) (pM σ q) (σ 38 q).toInt (σ 35 29).toInt)) ∧ (MRel (fun _ => False) (fun j => j = 44) σ u.1) ∧ (0 ≤ pl.toInt ∧ pl.toInt < 24) ∧ (0 ≤ (σ 36 q).toInt ∧ (σ 36 q).toInt ≤ 3))
set_option maxRecDepth 100000 in
set_option maxHeartbeats 4000000 in
theorem c5_X10_weight (l : Launch) {G : Gx} {A : Nat → Prop} (hG : GOk G A) (σ : SI) (τ : SL) (pl : Int32) (q : Nat) (hp_q : pl.toInt.toNat = q) (hnw : 0 ≤ (σ 35 29).toInt ∧ (σ 35 29).toInt ≤ 200) (hcl : Cl6 σ) (hkm : KM σ) (hxb : XB σ) : MI l G A 6 yX10_weight cX10_weight 3 (some .int) [.ref (G.2.1 35), .int pl] (σ, τ) (po5_X10_weight σ τ pl q) := by
  refine met_of (own := RX10) (by decide +kernel) rfl [(0, .ref (G.2.1 35)), (1, .int pl)] rfl (Nat.le_of_ble_eq_true rfl) ?_
  intro p e s m args below meth c ls hC hK hR hl
  have hS : va_S A s.heap s.heap [] := va_S.rf
  refine lv_aload_n hC.x hC.b dX10_weight_0 rfl (lv_at hl 0 rfl) ?_
  refine lv_iload_n hC.x hC.b dX10_weight_1 rfl (lv_at hl 1 rfl) ?_
  refine lv_iconst (v := 0) hC.x hC.b dX10_weight_2 (by decide) ?_
  refine lv_iconst (v := 3) hC.x hC.b dX10_weight_3 (by decide) ?_
  have av_1 : (0 : Int32).toInt = 0 := by decide
  have av_2 : (3 : Int32).toInt = 3 := by decide
  refine goip (runV (As := [.int pl, .int (0 : Int32), .int (3 : Int32)]) (rest := []) hC hK hR hl.1 (c_X10_fails l hG σ τ pl q (by first | rfl | (rw [show pl.toInt = pl.toInt from rfl]; done) | (rw [show pl.toInt = pl.toInt from rfl]; exact hp_q)) (0 : Int32) (3 : Int32) ) (call_b hC.ts TC_X10_fails TN_X10 TM_X10_144 hd_X10_fails ⟨Nat.le_of_ble_eq_true rfl, Nat.le_of_ble_eq_true rfl⟩) TI_X10_fails TS_X10_fails (ct_model G _ _) rfl rfl rfl (Nat.le_of_ble_eq_true rfl) dX10_weight_4 ⟨Nat.le_of_ble_eq_true rfl, Nat.le_of_ble_eq_true rfl⟩) hS (fun v_3 H locs w_4 hR hS => ?_)
  rcases w_4 with ⟨rfl, f_5⟩ | ⟨rfl, f_6, f_7, f_8⟩ | ⟨rfl, f_9, f_10, f_11⟩
  · skip
    refine lv_istore_n (lv' := [(2, .int (-1 : Int32)), (0, .ref (G.2.1 35)), (1, .int pl)]) hC.x hC.b dX10_weight_7 rfl hl (by decide) rfl (fun ls hl => ?_)
    refine lv_iload_n hC.x hC.b dX10_weight_8 rfl (lv_at hl 0 rfl) ?_
    refine bz_eq (tgt := 16) (a := (-1)) (b := 0) hC.x hC.b rfl rfl dX10_weight_9 (by decide) (fun c_12 => absurd c_12 (by decide)) (fun _ => ?_)
    refine lv_iload_n hC.x hC.b dX10_weight_12 rfl (lv_at hl 0 rfl) ?_
    refine lv_goto (tgt := 21) hC.x hC.b dX10_weight_13 (by decide) ?_
    exact reti hC hK hR hS (by first | exact Or.inl (⟨by rfl, by exact MRel.rf, by first | omega | assumption⟩) | exact Or.inr (Or.inr ((⟨by rfl, by exact MRel.rf, by first | omega | assumption, by first | omega | assumption⟩))) | exact False.elim (by omega)) dX10_weight_21
  · skip
    refine lv_istore_n (lv' := [(2, .int (0 : Int32)), (0, .ref (G.2.1 35)), (1, .int pl)]) hC.x hC.b dX10_weight_7 rfl hl (by decide) rfl (fun ls hl => ?_)
    refine lv_iload_n hC.x hC.b dX10_weight_8 rfl (lv_at hl 0 rfl) ?_
    refine bz_eq (tgt := 16) (a := 0) (b := 0) hC.x hC.b rfl rfl dX10_weight_9 (by decide) (fun _ => ?_) (fun c_13 => absurd c_13 (by decide))
    have hcq := hcl q (by omega) ⟨by omega, by omega⟩
    refine lv_aload_n hC.x hC.b dX10_weight_16 rfl (lv_at hl 1 rfl) ?_
    refine lv_iload_n hC.x hC.b dX10_weight_17 rfl (lv_at hl 2 rfl) ?_
    have hcq := hcl q (by omega) ⟨by omega, by omega⟩
    refine goi (runV (As := [.int pl]) (rest := []) hC hK hR hl.1 (c5_X10_full l hG σ τ pl q (by first | rfl | (rw [show pl.toInt = pl.toInt from rfl]; done) | (rw [show pl.toInt = pl.toInt from rfl]; exact hp_q)) (by first | assumption | omega) (by omega) (by first | assumption | omega) (by exact hkm) (by first | assumption) (by first | assumption | omega)) (call_b hC.ts TC_X10_full TN_X10 TM_X10_225 hd_X10_full ⟨Nat.le_of_ble_eq_true rfl, Nat.le_of_ble_eq_true rfl⟩) TI_X10_full TS_X10_full (ct_model G _ _) rfl rfl rfl (Nat.le_of_ble_eq_true rfl) dX10_weight_18 ⟨Nat.le_of_ble_eq_true rfl, Nat.le_of_ble_eq_true rfl⟩) hS (fun v_14 s_16 t_17 H locs w_15 hR hS => ?_)
    try dsimp only [po5_X10_full] at w_15
    obtain ⟨rfl, f_18⟩ := w_15
    exact reti hC hK hR hS (by first | exact Or.inl (⟨by rfl, by exact (MRel.tr MRel.rf f_18), by first | omega | assumption⟩) | exact Or.inr (Or.inl (⟨by rfl, by exact (MRel.tr MRel.rf f_18), by first | omega | assumption, by first | omega | assumption, by first | omega | assumption⟩)) | exact Or.inr (Or.inr ((⟨by rfl, by exact (MRel.tr MRel.rf f_18), by first | omega | assumption, by first | omega | assumption⟩))) | exact False.elim (by omega)) dX10_weight_21
  · skip
    refine lv_istore_n (lv' := [(2, .int (-2 : Int32)), (0, .ref (G.2.1 35)), (1, .int pl)]) hC.x hC.b dX10_weight_7 rfl hl (by decide) rfl (fun ls hl => ?_)
    refine lv_iload_n hC.x hC.b dX10_weight_8 rfl (lv_at hl 0 rfl) ?_
    refine bz_eq (tgt := 16) (a := (-2)) (b := 0) hC.x hC.b rfl rfl dX10_weight_9 (by decide) (fun c_19 => absurd c_19 (by decide)) (fun _ => ?_)
    refine lv_iload_n hC.x hC.b dX10_weight_12 rfl (lv_at hl 0 rfl) ?_
    refine lv_goto (tgt := 21) hC.x hC.b dX10_weight_13 (by decide) ?_
    exact reti hC hK hR hS (by first | exact Or.inr (Or.inl (⟨by rfl, by exact MRel.rf, by first | omega | assumption, by first | omega | assumption, by first | omega | assumption⟩)) | exact Or.inr (Or.inr ((⟨by rfl, by exact MRel.rf, by first | omega | assumption, by first | omega | assumption⟩))) | exact False.elim (by omega)) dX10_weight_21

abbrev po5_X10_slope (σ : SI) (τ : SL) (pl : Int32) (q : Nat) (wa : Int32) : Int32 → SI × SL → Prop := fun v u => ((v = (-1)) ∧ (MRel (fun _ => False) (fun j => j = 44) σ u.1) ∧ (¬ (0 ≤ pl.toInt ∧ pl.toInt < 24) ∨ (σ 36 q).toInt = -1)) ∨ ((v = (-2)) ∧ (MRel (fun _ => False) (fun j => j = 44) σ u.1) ∧ (0 ≤ pl.toInt ∧ pl.toInt < 24) ∧ ((σ 36 q).toInt ≠ -1) ∧ (¬ (0 ≤ (σ 36 q).toInt ∧ (σ 36 q).toInt ≤ 3))) ∨ ((v = (-1)) ∧ (MRel (fun _ => False) (fun j => j = 44) σ u.1) ∧ (0 ≤ pl.toInt ∧ pl.toInt < 24) ∧ (0 ≤ (σ 36 q).toInt ∧ (σ 36 q).toInt ≤ 3) ∧ (wa.toInt < 0 ∨ 1 < wa.toInt)) ∨ ((v = (SLP (pX σ q) (σ 37 q).toInt (σ 35 29).toInt (σ 36 q).toInt wa.toInt)) ∧ (MRel (fun _ => False) (fun j => j = 44) σ u.1) ∧ (0 ≤ pl.toInt ∧ pl.toInt < 24) ∧ (0 ≤ (σ 36 q).toInt ∧ (σ 36 q).toInt ≤ 3) ∧ (0 ≤ wa.toInt ∧ wa.toInt ≤ 1))
set_option maxRecDepth 100000 in
set_option maxHeartbeats 4000000 in
theorem c5_X10_slope (l : Launch) {G : Gx} {A : Nat → Prop} (hG : GOk G A) (σ : SI) (τ : SL) (pl : Int32) (q : Nat) (hp_q : pl.toInt.toNat = q) (wa : Int32) (hnw : 0 ≤ (σ 35 29).toInt ∧ (σ 35 29).toInt ≤ 200) (hcl : Cl6 σ) (hxb : XB σ) : MI l G A 32 yX10_slope cX10_slope 8 (some .int) [.ref (G.2.1 35), .int pl, .int wa] (σ, τ) (po5_X10_slope σ τ pl q wa) := by
  refine met_of (own := RX10) (by decide +kernel) rfl [(0, .ref (G.2.1 35)), (1, .int pl), (2, .int wa)] rfl (Nat.le_of_ble_eq_true rfl) ?_
  intro p e s m args below meth c ls hC hK hR hl
  have hS : va_S A s.heap s.heap [] := va_S.rf
  refine lv_aload_n hC.x hC.b dX10_slope_0 rfl (lv_at hl 0 rfl) ?_
  refine lv_iload_n hC.x hC.b dX10_slope_1 rfl (lv_at hl 1 rfl) ?_
  refine lv_iconst (v := 0) hC.x hC.b dX10_slope_2 (by decide) ?_
  refine lv_iconst (v := 3) hC.x hC.b dX10_slope_3 (by decide) ?_
  have av_1 : (0 : Int32).toInt = 0 := by decide
  have av_2 : (3 : Int32).toInt = 3 := by decide
  refine goip (runV (As := [.int pl, .int (0 : Int32), .int (3 : Int32)]) (rest := []) hC hK hR hl.1 (c_X10_fails l hG σ τ pl q (by first | rfl | (rw [show pl.toInt = pl.toInt from rfl]; done) | (rw [show pl.toInt = pl.toInt from rfl]; exact hp_q)) (0 : Int32) (3 : Int32) ) (call_b hC.ts TC_X10_fails TN_X10 TM_X10_144 hd_X10_fails ⟨Nat.le_of_ble_eq_true rfl, Nat.le_of_ble_eq_true rfl⟩) TI_X10_fails TS_X10_fails (ct_model G _ _) rfl rfl rfl (Nat.le_of_ble_eq_true rfl) dX10_slope_4 ⟨Nat.le_of_ble_eq_true rfl, Nat.le_of_ble_eq_true rfl⟩) hS (fun v_3 H locs w_4 hR hS => ?_)
  rcases w_4 with ⟨rfl, f_5⟩ | ⟨rfl, f_6, f_7, f_8⟩ | ⟨rfl, f_9, f_10, f_11⟩
  · skip
    refine lv_istore_n (lv' := [(3, .int (-1 : Int32)), (0, .ref (G.2.1 35)), (1, .int pl), (2, .int wa)]) hC.x hC.b dX10_slope_7 rfl hl (by decide) rfl (fun ls hl => ?_)
    refine lv_iload_n hC.x hC.b dX10_slope_8 rfl (lv_at hl 0 rfl) ?_
    refine bz_eq (tgt := 14) (a := (-1)) (b := 0) hC.x hC.b rfl rfl dX10_slope_9 (by decide) (fun c_12 => absurd c_12 (by decide)) (fun _ => ?_)
    refine lv_iload_n hC.x hC.b dX10_slope_12 rfl (lv_at hl 0 rfl) ?_
    exact reti hC hK hR hS (by first | exact Or.inl (⟨by first | rfl | exact slm_0 hA (by omega) | exact slm_v hA hB (by omega) (by assumption) (by first | (rw [negL rfl (by omega)]; omega) | omega) (by first | exact Or.inl ⟨by omega, by first | assumption | rfl⟩ | exact Or.inr ⟨by omega, by first | assumption | rfl⟩) (by first | exact Or.inl ⟨by omega, rfl⟩ | exact Or.inr (Or.inl ⟨by omega, rfl⟩) | exact Or.inr (Or.inr ⟨by omega, by omega, rfl⟩)), by exact MRel.rf, by first | omega | assumption⟩) | exact Or.inr (Or.inr (Or.inl (⟨by first | rfl | exact slm_0 hA (by omega) | exact slm_v hA hB (by omega) (by assumption) (by first | (rw [negL rfl (by omega)]; omega) | omega) (by first | exact Or.inl ⟨by omega, by first | assumption | rfl⟩ | exact Or.inr ⟨by omega, by first | assumption | rfl⟩) (by first | exact Or.inl ⟨by omega, rfl⟩ | exact Or.inr (Or.inl ⟨by omega, rfl⟩) | exact Or.inr (Or.inr ⟨by omega, by omega, rfl⟩)), by exact MRel.rf, by first | omega | assumption, by first | omega | assumption, by first | omega | assumption⟩))) | exact Or.inr (Or.inr (Or.inr ((⟨by first | rfl | exact slm_0 hA (by omega) | exact slm_v hA hB (by omega) (by assumption) (by first | (rw [negL rfl (by omega)]; omega) | omega) (by first | exact Or.inl ⟨by omega, by first | assumption | rfl⟩ | exact Or.inr ⟨by omega, by first | assumption | rfl⟩) (by first | exact Or.inl ⟨by omega, rfl⟩ | exact Or.inr (Or.inl ⟨by omega, rfl⟩) | exact Or.inr (Or.inr ⟨by omega, by omega, rfl⟩)), by exact MRel.rf, by first | omega | assumption, by first | omega | assumption, by first | omega | assumption⟩)))) | exact False.elim (by omega)) dX10_slope_13
  · skip
    refine lv_istore_n (lv' := [(3, .int (0 : Int32)), (0, .ref (G.2.1 35)), (1, .int pl), (2, .int wa)]) hC.x hC.b dX10_slope_7 rfl hl (by decide) rfl (fun ls hl => ?_)
    refine lv_iload_n hC.x hC.b dX10_slope_8 rfl (lv_at hl 0 rfl) ?_
    refine bz_eq (tgt := 14) (a := 0) (b := 0) hC.x hC.b rfl rfl dX10_slope_9 (by decide) (fun _ => ?_) (fun c_13 => absurd c_13 (by decide))
    refine lv_iload_n hC.x hC.b dX10_slope_14 rfl (lv_at hl 3 rfl) ?_
    refine lv_iconst (v := 0) hC.x hC.b dX10_slope_15 (by decide) ?_
    refine lv_iconst (v := 1) hC.x hC.b dX10_slope_16 (by decide) ?_
    have av_14 : (0 : Int32).toInt = 0 := by decide
    have av_15 : (1 : Int32).toInt = 1 := by decide
    refine goip (runS (As := [.int wa, .int (0 : Int32), .int (1 : Int32)]) (rest := []) hC hK hR hl.1 (c_X10_isIn l hG σ τ wa (0 : Int32) (1 : Int32) ) (call_b hC.ts TC_X10_isIn TN_X10 TM_X10_129 hd_X10_isIn ⟨Nat.le_of_ble_eq_true rfl, Nat.le_of_ble_eq_true rfl⟩) TT_X10_isIn rfl rfl (Nat.le_of_ble_eq_true rfl) dX10_slope_17 ⟨Nat.le_of_ble_eq_true rfl, Nat.le_of_ble_eq_true rfl⟩) hS (fun v_16 H locs w_17 hR hS => ?_)
    rcases w_17 with ⟨rfl, f_18, f_19⟩ | ⟨rfl, f_20⟩
    · skip
      refine bz_ne (tgt := 25) (a := 1) (b := 0) hC.x hC.b rfl rfl dX10_slope_20 (by decide) (fun _ => ?_) (fun c_21 => absurd c_21 (by decide))
      have hcq := hcl q (by omega) ⟨by omega, by omega⟩
      refine lv_aload_n hC.x hC.b dX10_slope_25 rfl (lv_at hl 1 rfl) ?_
      refine lv_iload_n hC.x hC.b dX10_slope_26 rfl (lv_at hl 2 rfl) ?_
      refine lv_aload_n hC.x hC.b dX10_slope_27 rfl (lv_at hl 1 rfl) ?_
      refine lv_iload_n hC.x hC.b dX10_slope_28 rfl (lv_at hl 2 rfl) ?_
      refine goip (runV (As := [.int pl]) (rest := [.int pl, .ref (G.2.1 35)]) hC hK hR hl.1 (c5_X10_byGains l hG σ τ pl q (by first | rfl | (rw [show pl.toInt = pl.toInt from rfl]; done) | (rw [show pl.toInt = pl.toInt from rfl]; exact hp_q)) (by first | assumption | omega) (by omega) (by first | assumption | omega) (by first | assumption)) (call_b hC.ts TC_X10_byGains TN_X10 TM_X10_196 hd_X10_byGains ⟨Nat.le_of_ble_eq_true rfl, Nat.le_of_ble_eq_true rfl⟩) TI_X10_byGains TS_X10_byGains (ct_model G _ _) rfl rfl rfl (Nat.le_of_ble_eq_true rfl) dX10_slope_29 ⟨Nat.le_of_ble_eq_true rfl, Nat.le_of_ble_eq_true rfl⟩) hS (fun v_22 H locs w_23 hR hS => ?_)
      rcases w_23 with ⟨rfl, f_24, f_25⟩ | ⟨rfl, f_26⟩
      · skip
        have av_27 : (1 : Int32).toInt = 1 := by decide
        refine gov (runV (As := [.int pl, .int (1 : Int32)]) (rest := []) hC hK hR hl.1 (c5_X10_line l hG σ τ pl q (by first | rfl | (rw [show pl.toInt = pl.toInt from rfl]; done) | (rw [show pl.toInt = pl.toInt from rfl]; exact hp_q)) (1 : Int32) (by first | assumption | omega) (by omega) (by first | assumption | omega) (by first | assumption)) (call_b hC.ts TC_X10_line TN_X10 TM_X10_199 hd_X10_line ⟨Nat.le_of_ble_eq_true rfl, Nat.le_of_ble_eq_true rfl⟩) TI_X10_line TS_X10_line (ct_model G _ _) rfl rfl rfl (Nat.le_of_ble_eq_true rfl) dX10_slope_32 ⟨Nat.le_of_ble_eq_true rfl, Nat.le_of_ble_eq_true rfl⟩) hS (fun s_30 t_31 H locs w_29 hR hS => ?_)
        try dsimp only [po5_X10_line] at w_29
        obtain ⟨f_32, f_33, f_34⟩ := w_29
        have hA : LNp s_30 t_31 (LF (pX σ q) (σ 37 q).toInt (σ 35 29).toInt (σ 36 q).toInt) := by first | (rw [← LF_m1 (by assumption)]; assumption) | (rw [← LF_m0 (by assumption)]; assumption)
        have hB : LB (LF (pX σ q) (σ 37 q).toInt (σ 35 29).toInt (σ 36 q).toInt) := LF_lb (pX_R hxb) (by omega)
        have hAb := lnp_a hA hB
        refine lv_aload_n hC.x hC.b dX10_slope_35 rfl (lv_at hl 1 rfl) ?_
        refine rget hC hK hR (ct_model G _ _) rfl uin_X10 44 (by decide) TF_X10_176 rfl dX10_slope_36 ?_
        refine bz_ne (tgt := 45) (a := (s_30 35 44).toInt) (b := 0) hC.x hC.b rfl rfl dX10_slope_39 (by decide) (fun c_35 => ?_) (fun c_35 => ?_)
        · skip
          refine lv_aload_n hC.x hC.b dX10_slope_45 rfl (lv_at hl 1 rfl) ?_
          refine rget hC hK hR (ct_model G _ _) rfl uin_X10 45 (by decide) TF_X10_182 rfl dX10_slope_46 ?_
          refine lv_lconst (v := 0) hC.x hC.b dX10_slope_49 (by decide) ?_
          refine bl_ge (tgt := 62) (a := (t_31 35 45).toInt) (b := 0) hC.x hC.b rfl rfl dX10_slope_50 dX10_slope_51 (by decide) (fun c_36 => ?_) (fun c_36 => ?_)
          · skip
            refine lv_aload_n hC.x hC.b dX10_slope_62 rfl (lv_at hl 1 rfl) ?_
            refine rget hC hK hR (ct_model G _ _) rfl uin_X10 45 (by decide) TF_X10_182 rfl dX10_slope_63 ?_
            refine lv_aload_n hC.x hC.b dX10_slope_66 rfl (lv_at hl 1 rfl) ?_
            refine rget hC hK hR (ct_model G _ _) rfl uin_X10 46 (by decide) TF_X10_186 rfl dX10_slope_67 ?_
            refine golp (runS (As := [.long (t_31 35 45), .long (t_31 35 46)]) (rest := []) hC hK hR hl.1 (c5_X10_common l hG s_30 t_31 (t_31 35 45) (t_31 35 46) (by omega) (by omega)) (call_b hC.ts TC_X10_common TN_X10 TM_X10_222 hd_X10_common ⟨Nat.le_of_ble_eq_true rfl, Nat.le_of_ble_eq_true rfl⟩) TT_X10_common rfl rfl (Nat.le_of_ble_eq_true rfl) dX10_slope_70 ⟨Nat.le_of_ble_eq_true rfl, Nat.le_of_ble_eq_true rfl⟩) hS (fun v_37 H locs w_38 hR hS => ?_)
            obtain ⟨f_39, f_40⟩ := w_38
            refine lv_lstore (lv' := [(4, .long v_37), (3, .int (0 : Int32)), (0, .ref (G.2.1 35)), (1, .int pl), (2, .int wa)]) hC.x hC.b dX10_slope_73 hl (by decide) rfl (fun ls hl => ?_)
            refine lv_iload_n hC.x hC.b dX10_slope_75 rfl (lv_at hl 4 rfl) ?_
            refine bz_ne (tgt := 89) (a := wa.toInt) (b := 0) hC.x hC.b rfl rfl dX10_slope_76 (by decide) (fun c_41 => ?_) (fun c_41 => ?_)
            · skip
              refine lv_aload_n hC.x hC.b dX10_slope_89 rfl (lv_at hl 2 rfl) ?_
              refine rget hC hK hR (ct_model G _ _) rfl uin_X10 46 (by decide) TF_X10_186 rfl dX10_slope_90 ?_
              refine lv_lload hC.x hC.b dX10_slope_93 (lv_at hl 0 rfl) ?_
              refine lv_ldiv hC.x hC.b dX10_slope_95 (ne0L rfl (by omega)) ?_
              refine lv_lstore (lv' := [(6, .long ((t_31 35 46) / v_37)), (4, .long v_37), (3, .int (0 : Int32)), (0, .ref (G.2.1 35)), (1, .int pl), (2, .int wa)]) hC.x hC.b dX10_slope_96 hl (by decide) rfl (fun ls hl => ?_)
              refine lv_lload hC.x hC.b dX10_slope_98 (lv_at hl 0 rfl) ?_
              refine lv_ldc2 hC.x hC.b hC.ow (hC.ts _ TK_X10_204) dX10_slope_100 ?_
              refine bl_le (tgt := 112) (a := ((t_31 35 46) / v_37).toInt) (b := 1000000000) hC.x hC.b rfl rfl dX10_slope_103 dX10_slope_104 (by decide) (fun c_42 => ?_) (fun c_42 => ?_)
              · skip
                refine lv_lload hC.x hC.b dX10_slope_112 (lv_at hl 0 rfl) ?_
                refine lv_ldc2 hC.x hC.b hC.ow (hC.ts _ TK_X10_207) dX10_slope_114 ?_
                refine bl_ge (tgt := 126) (a := ((t_31 35 46) / v_37).toInt) (b := (-1000000000)) hC.x hC.b rfl rfl dX10_slope_117 dX10_slope_118 (by decide) (fun c_43 => ?_) (fun c_43 => ?_)
                · skip
                  refine lv_lload hC.x hC.b dX10_slope_126 (lv_at hl 0 rfl) ?_
                  refine lv_l2i hC.x hC.b dX10_slope_128 rfl ?_
                  exact reti hC hK hR hS (by first | exact Or.inl (⟨by first | rfl | exact slm_0 hA (by omega) | exact slm_v hA hB (by omega) (by assumption) (by first | (rw [negL rfl (by omega)]; omega) | omega) (by first | exact Or.inl ⟨by omega, by first | assumption | rfl⟩ | exact Or.inr ⟨by omega, by first | assumption | rfl⟩) (by first | exact Or.inl ⟨by omega, rfl⟩ | exact Or.inr (Or.inl ⟨by omega, rfl⟩) | exact Or.inr (Or.inr ⟨by omega, by omega, rfl⟩)), by exact (MRel.tr MRel.rf f_32), by first | omega | assumption⟩) | exact Or.inr (Or.inl (⟨by first | rfl | exact slm_0 hA (by omega) | exact slm_v hA hB (by omega) (by assumption) (by first | (rw [negL rfl (by omega)]; omega) | omega) (by first | exact Or.inl ⟨by omega, by first | assumption | rfl⟩ | exact Or.inr ⟨by omega, by first | assumption | rfl⟩) (by first | exact Or.inl ⟨by omega, rfl⟩ | exact Or.inr (Or.inl ⟨by omega, rfl⟩) | exact Or.inr (Or.inr ⟨by omega, by omega, rfl⟩)), by exact (MRel.tr MRel.rf f_32), by first | omega | assumption, by first | omega | assumption, by first | omega | assumption⟩)) | exact Or.inr (Or.inr (Or.inl (⟨by first | rfl | exact slm_0 hA (by omega) | exact slm_v hA hB (by omega) (by assumption) (by first | (rw [negL rfl (by omega)]; omega) | omega) (by first | exact Or.inl ⟨by omega, by first | assumption | rfl⟩ | exact Or.inr ⟨by omega, by first | assumption | rfl⟩) (by first | exact Or.inl ⟨by omega, rfl⟩ | exact Or.inr (Or.inl ⟨by omega, rfl⟩) | exact Or.inr (Or.inr ⟨by omega, by omega, rfl⟩)), by exact (MRel.tr MRel.rf f_32), by first | omega | assumption, by first | omega | assumption, by first | omega | assumption⟩))) | exact Or.inr (Or.inr (Or.inr ((⟨by first | rfl | exact slm_0 hA (by omega) | exact slm_v hA hB (by omega) (by assumption) (by first | (rw [negL rfl (by omega)]; omega) | omega) (by first | exact Or.inl ⟨by omega, by first | assumption | rfl⟩ | exact Or.inr ⟨by omega, by first | assumption | rfl⟩) (by first | exact Or.inl ⟨by omega, rfl⟩ | exact Or.inr (Or.inl ⟨by omega, rfl⟩) | exact Or.inr (Or.inr ⟨by omega, by omega, rfl⟩)), by exact (MRel.tr MRel.rf f_32), by first | omega | assumption, by first | omega | assumption, by first | omega | assumption⟩)))) | exact False.elim (by omega)) dX10_slope_129
                · skip
                  refine lv_ldc hC.x hC.b hC.ow (hC.ts _ TK_X10_209) dX10_slope_121 ?_
                  refine lv_goto (tgt := 129) hC.x hC.b dX10_slope_123 (by decide) ?_
                  exact reti hC hK hR hS (by first | exact Or.inr (Or.inr (Or.inr ((⟨by first | rfl | exact slm_0 hA (by omega) | exact slm_v hA hB (by omega) (by assumption) (by first | (rw [negL rfl (by omega)]; omega) | omega) (by first | exact Or.inl ⟨by omega, by first | assumption | rfl⟩ | exact Or.inr ⟨by omega, by first | assumption | rfl⟩) (by first | exact Or.inl ⟨by omega, rfl⟩ | exact Or.inr (Or.inl ⟨by omega, rfl⟩) | exact Or.inr (Or.inr ⟨by omega, by omega, rfl⟩)), by exact (MRel.tr MRel.rf f_32), by first | omega | assumption, by first | omega | assumption, by first | omega | assumption⟩)))) | exact False.elim (by omega)) dX10_slope_129
              · skip
                refine lv_ldc hC.x hC.b hC.ow (hC.ts _ TK_X10_206) dX10_slope_107 ?_
                refine lv_goto (tgt := 129) hC.x hC.b dX10_slope_109 (by decide) ?_
                exact reti hC hK hR hS (by first | exact Or.inr (Or.inr (Or.inr ((⟨by first | rfl | exact slm_0 hA (by omega) | exact slm_v hA hB (by omega) (by assumption) (by first | (rw [negL rfl (by omega)]; omega) | omega) (by first | exact Or.inl ⟨by omega, by first | assumption | rfl⟩ | exact Or.inr ⟨by omega, by first | assumption | rfl⟩) (by first | exact Or.inl ⟨by omega, rfl⟩ | exact Or.inr (Or.inl ⟨by omega, rfl⟩) | exact Or.inr (Or.inr ⟨by omega, by omega, rfl⟩)), by exact (MRel.tr MRel.rf f_32), by first | omega | assumption, by first | omega | assumption, by first | omega | assumption⟩)))) | exact False.elim (by omega)) dX10_slope_129
            · skip
              refine lv_aload_n hC.x hC.b dX10_slope_79 rfl (lv_at hl 2 rfl) ?_
              refine rget hC hK hR (ct_model G _ _) rfl uin_X10 45 (by decide) TF_X10_182 rfl dX10_slope_80 ?_
              refine lv_lload hC.x hC.b dX10_slope_83 (lv_at hl 0 rfl) ?_
              refine lv_ldiv hC.x hC.b dX10_slope_85 (ne0L rfl (by omega)) ?_
              refine lv_goto (tgt := 96) hC.x hC.b dX10_slope_86 (by decide) ?_
              refine lv_lstore (lv' := [(6, .long ((t_31 35 45) / v_37)), (4, .long v_37), (3, .int (0 : Int32)), (0, .ref (G.2.1 35)), (1, .int pl), (2, .int wa)]) hC.x hC.b dX10_slope_96 hl (by decide) rfl (fun ls hl => ?_)
              refine lv_lload hC.x hC.b dX10_slope_98 (lv_at hl 0 rfl) ?_
              refine lv_ldc2 hC.x hC.b hC.ow (hC.ts _ TK_X10_204) dX10_slope_100 ?_
              refine bl_le (tgt := 112) (a := ((t_31 35 45) / v_37).toInt) (b := 1000000000) hC.x hC.b rfl rfl dX10_slope_103 dX10_slope_104 (by decide) (fun c_44 => ?_) (fun c_44 => ?_)
              · skip
                refine lv_lload hC.x hC.b dX10_slope_112 (lv_at hl 0 rfl) ?_
                refine lv_ldc2 hC.x hC.b hC.ow (hC.ts _ TK_X10_207) dX10_slope_114 ?_
                refine bl_ge (tgt := 126) (a := ((t_31 35 45) / v_37).toInt) (b := (-1000000000)) hC.x hC.b rfl rfl dX10_slope_117 dX10_slope_118 (by decide) (fun c_45 => ?_) (fun c_45 => ?_)
                · skip
                  refine lv_lload hC.x hC.b dX10_slope_126 (lv_at hl 0 rfl) ?_
                  refine lv_l2i hC.x hC.b dX10_slope_128 rfl ?_
                  exact reti hC hK hR hS (by first | exact Or.inl (⟨by first | rfl | exact slm_0 hA (by omega) | exact slm_v hA hB (by omega) (by assumption) (by first | (rw [negL rfl (by omega)]; omega) | omega) (by first | exact Or.inl ⟨by omega, by first | assumption | rfl⟩ | exact Or.inr ⟨by omega, by first | assumption | rfl⟩) (by first | exact Or.inl ⟨by omega, rfl⟩ | exact Or.inr (Or.inl ⟨by omega, rfl⟩) | exact Or.inr (Or.inr ⟨by omega, by omega, rfl⟩)), by exact (MRel.tr MRel.rf f_32), by first | omega | assumption⟩) | exact Or.inr (Or.inl (⟨by first | rfl | exact slm_0 hA (by omega) | exact slm_v hA hB (by omega) (by assumption) (by first | (rw [negL rfl (by omega)]; omega) | omega) (by first | exact Or.inl ⟨by omega, by first | assumption | rfl⟩ | exact Or.inr ⟨by omega, by first | assumption | rfl⟩) (by first | exact Or.inl ⟨by omega, rfl⟩ | exact Or.inr (Or.inl ⟨by omega, rfl⟩) | exact Or.inr (Or.inr ⟨by omega, by omega, rfl⟩)), by exact (MRel.tr MRel.rf f_32), by first | omega | assumption, by first | omega | assumption, by first | omega | assumption⟩)) | exact Or.inr (Or.inr (Or.inl (⟨by first | rfl | exact slm_0 hA (by omega) | exact slm_v hA hB (by omega) (by assumption) (by first | (rw [negL rfl (by omega)]; omega) | omega) (by first | exact Or.inl ⟨by omega, by first | assumption | rfl⟩ | exact Or.inr ⟨by omega, by first | assumption | rfl⟩) (by first | exact Or.inl ⟨by omega, rfl⟩ | exact Or.inr (Or.inl ⟨by omega, rfl⟩) | exact Or.inr (Or.inr ⟨by omega, by omega, rfl⟩)), by exact (MRel.tr MRel.rf f_32), by first | omega | assumption, by first | omega | assumption, by first | omega | assumption⟩))) | exact Or.inr (Or.inr (Or.inr ((⟨by first | rfl | exact slm_0 hA (by omega) | exact slm_v hA hB (by omega) (by assumption) (by first | (rw [negL rfl (by omega)]; omega) | omega) (by first | exact Or.inl ⟨by omega, by first | assumption | rfl⟩ | exact Or.inr ⟨by omega, by first | assumption | rfl⟩) (by first | exact Or.inl ⟨by omega, rfl⟩ | exact Or.inr (Or.inl ⟨by omega, rfl⟩) | exact Or.inr (Or.inr ⟨by omega, by omega, rfl⟩)), by exact (MRel.tr MRel.rf f_32), by first | omega | assumption, by first | omega | assumption, by first | omega | assumption⟩)))) | exact False.elim (by omega)) dX10_slope_129
                · skip
                  refine lv_ldc hC.x hC.b hC.ow (hC.ts _ TK_X10_209) dX10_slope_121 ?_
                  refine lv_goto (tgt := 129) hC.x hC.b dX10_slope_123 (by decide) ?_
                  exact reti hC hK hR hS (by first | exact Or.inr (Or.inr (Or.inr ((⟨by first | rfl | exact slm_0 hA (by omega) | exact slm_v hA hB (by omega) (by assumption) (by first | (rw [negL rfl (by omega)]; omega) | omega) (by first | exact Or.inl ⟨by omega, by first | assumption | rfl⟩ | exact Or.inr ⟨by omega, by first | assumption | rfl⟩) (by first | exact Or.inl ⟨by omega, rfl⟩ | exact Or.inr (Or.inl ⟨by omega, rfl⟩) | exact Or.inr (Or.inr ⟨by omega, by omega, rfl⟩)), by exact (MRel.tr MRel.rf f_32), by first | omega | assumption, by first | omega | assumption, by first | omega | assumption⟩)))) | exact False.elim (by omega)) dX10_slope_129
              · skip
                refine lv_ldc hC.x hC.b hC.ow (hC.ts _ TK_X10_206) dX10_slope_107 ?_
                refine lv_goto (tgt := 129) hC.x hC.b dX10_slope_109 (by decide) ?_
                exact reti hC hK hR hS (by first | exact Or.inr (Or.inr (Or.inr ((⟨by first | rfl | exact slm_0 hA (by omega) | exact slm_v hA hB (by omega) (by assumption) (by first | (rw [negL rfl (by omega)]; omega) | omega) (by first | exact Or.inl ⟨by omega, by first | assumption | rfl⟩ | exact Or.inr ⟨by omega, by first | assumption | rfl⟩) (by first | exact Or.inl ⟨by omega, rfl⟩ | exact Or.inr (Or.inl ⟨by omega, rfl⟩) | exact Or.inr (Or.inr ⟨by omega, by omega, rfl⟩)), by exact (MRel.tr MRel.rf f_32), by first | omega | assumption, by first | omega | assumption, by first | omega | assumption⟩)))) | exact False.elim (by omega)) dX10_slope_129
          · skip
            refine lv_aload_n hC.x hC.b dX10_slope_54 rfl (lv_at hl 1 rfl) ?_
            refine rget hC hK hR (ct_model G _ _) rfl uin_X10 45 (by decide) TF_X10_182 rfl dX10_slope_55 ?_
            refine lv_lneg hC.x hC.b dX10_slope_58 ?_
            refine lv_goto (tgt := 66) hC.x hC.b dX10_slope_59 (by decide) ?_
            refine lv_aload_n hC.x hC.b dX10_slope_66 rfl (lv_at hl 1 rfl) ?_
            refine rget hC hK hR (ct_model G _ _) rfl uin_X10 46 (by decide) TF_X10_186 rfl dX10_slope_67 ?_
            refine golp (runS (As := [.long (-(t_31 35 45)), .long (t_31 35 46)]) (rest := []) hC hK hR hl.1 (c5_X10_common l hG s_30 t_31 (-(t_31 35 45)) (t_31 35 46) (by omega) (by omega)) (call_b hC.ts TC_X10_common TN_X10 TM_X10_222 hd_X10_common ⟨Nat.le_of_ble_eq_true rfl, Nat.le_of_ble_eq_true rfl⟩) TT_X10_common rfl rfl (Nat.le_of_ble_eq_true rfl) dX10_slope_70 ⟨Nat.le_of_ble_eq_true rfl, Nat.le_of_ble_eq_true rfl⟩) hS (fun v_46 H locs w_47 hR hS => ?_)
            obtain ⟨f_48, f_49⟩ := w_47
            refine lv_lstore (lv' := [(4, .long v_46), (3, .int (0 : Int32)), (0, .ref (G.2.1 35)), (1, .int pl), (2, .int wa)]) hC.x hC.b dX10_slope_73 hl (by decide) rfl (fun ls hl => ?_)
            refine lv_iload_n hC.x hC.b dX10_slope_75 rfl (lv_at hl 4 rfl) ?_
            refine bz_ne (tgt := 89) (a := wa.toInt) (b := 0) hC.x hC.b rfl rfl dX10_slope_76 (by decide) (fun c_50 => ?_) (fun c_50 => ?_)
            · skip
              refine lv_aload_n hC.x hC.b dX10_slope_89 rfl (lv_at hl 2 rfl) ?_
              refine rget hC hK hR (ct_model G _ _) rfl uin_X10 46 (by decide) TF_X10_186 rfl dX10_slope_90 ?_
              refine lv_lload hC.x hC.b dX10_slope_93 (lv_at hl 0 rfl) ?_
              refine lv_ldiv hC.x hC.b dX10_slope_95 (ne0L rfl (by omega)) ?_
              refine lv_lstore (lv' := [(6, .long ((t_31 35 46) / v_46)), (4, .long v_46), (3, .int (0 : Int32)), (0, .ref (G.2.1 35)), (1, .int pl), (2, .int wa)]) hC.x hC.b dX10_slope_96 hl (by decide) rfl (fun ls hl => ?_)
              refine lv_lload hC.x hC.b dX10_slope_98 (lv_at hl 0 rfl) ?_
              refine lv_ldc2 hC.x hC.b hC.ow (hC.ts _ TK_X10_204) dX10_slope_100 ?_
              refine bl_le (tgt := 112) (a := ((t_31 35 46) / v_46).toInt) (b := 1000000000) hC.x hC.b rfl rfl dX10_slope_103 dX10_slope_104 (by decide) (fun c_51 => ?_) (fun c_51 => ?_)
              · skip
                refine lv_lload hC.x hC.b dX10_slope_112 (lv_at hl 0 rfl) ?_
                refine lv_ldc2 hC.x hC.b hC.ow (hC.ts _ TK_X10_207) dX10_slope_114 ?_
                refine bl_ge (tgt := 126) (a := ((t_31 35 46) / v_46).toInt) (b := (-1000000000)) hC.x hC.b rfl rfl dX10_slope_117 dX10_slope_118 (by decide) (fun c_52 => ?_) (fun c_52 => ?_)
                · skip
                  refine lv_lload hC.x hC.b dX10_slope_126 (lv_at hl 0 rfl) ?_
                  refine lv_l2i hC.x hC.b dX10_slope_128 rfl ?_
                  exact reti hC hK hR hS (by first | exact Or.inl (⟨by first | rfl | exact slm_0 hA (by omega) | exact slm_v hA hB (by omega) (by assumption) (by first | (rw [negL rfl (by omega)]; omega) | omega) (by first | exact Or.inl ⟨by omega, by first | assumption | rfl⟩ | exact Or.inr ⟨by omega, by first | assumption | rfl⟩) (by first | exact Or.inl ⟨by omega, rfl⟩ | exact Or.inr (Or.inl ⟨by omega, rfl⟩) | exact Or.inr (Or.inr ⟨by omega, by omega, rfl⟩)), by exact (MRel.tr MRel.rf f_32), by first | omega | assumption⟩) | exact Or.inr (Or.inl (⟨by first | rfl | exact slm_0 hA (by omega) | exact slm_v hA hB (by omega) (by assumption) (by first | (rw [negL rfl (by omega)]; omega) | omega) (by first | exact Or.inl ⟨by omega, by first | assumption | rfl⟩ | exact Or.inr ⟨by omega, by first | assumption | rfl⟩) (by first | exact Or.inl ⟨by omega, rfl⟩ | exact Or.inr (Or.inl ⟨by omega, rfl⟩) | exact Or.inr (Or.inr ⟨by omega, by omega, rfl⟩)), by exact (MRel.tr MRel.rf f_32), by first | omega | assumption, by first | omega | assumption, by first | omega | assumption⟩)) | exact Or.inr (Or.inr (Or.inl (⟨by first | rfl | exact slm_0 hA (by omega) | exact slm_v hA hB (by omega) (by assumption) (by first | (rw [negL rfl (by omega)]; omega) | omega) (by first | exact Or.inl ⟨by omega, by first | assumption | rfl⟩ | exact Or.inr ⟨by omega, by first | assumption | rfl⟩) (by first | exact Or.inl ⟨by omega, rfl⟩ | exact Or.inr (Or.inl ⟨by omega, rfl⟩) | exact Or.inr (Or.inr ⟨by omega, by omega, rfl⟩)), by exact (MRel.tr MRel.rf f_32), by first | omega | assumption, by first | omega | assumption, by first | omega | assumption⟩))) | exact Or.inr (Or.inr (Or.inr ((⟨by first | rfl | exact slm_0 hA (by omega) | exact slm_v hA hB (by omega) (by assumption) (by first | (rw [negL rfl (by omega)]; omega) | omega) (by first | exact Or.inl ⟨by omega, by first | assumption | rfl⟩ | exact Or.inr ⟨by omega, by first | assumption | rfl⟩) (by first | exact Or.inl ⟨by omega, rfl⟩ | exact Or.inr (Or.inl ⟨by omega, rfl⟩) | exact Or.inr (Or.inr ⟨by omega, by omega, rfl⟩)), by exact (MRel.tr MRel.rf f_32), by first | omega | assumption, by first | omega | assumption, by first | omega | assumption⟩)))) | exact False.elim (by omega)) dX10_slope_129
                · skip
                  refine lv_ldc hC.x hC.b hC.ow (hC.ts _ TK_X10_209) dX10_slope_121 ?_
                  refine lv_goto (tgt := 129) hC.x hC.b dX10_slope_123 (by decide) ?_
                  exact reti hC hK hR hS (by first | exact Or.inr (Or.inr (Or.inr ((⟨by first | rfl | exact slm_0 hA (by omega) | exact slm_v hA hB (by omega) (by assumption) (by first | (rw [negL rfl (by omega)]; omega) | omega) (by first | exact Or.inl ⟨by omega, by first | assumption | rfl⟩ | exact Or.inr ⟨by omega, by first | assumption | rfl⟩) (by first | exact Or.inl ⟨by omega, rfl⟩ | exact Or.inr (Or.inl ⟨by omega, rfl⟩) | exact Or.inr (Or.inr ⟨by omega, by omega, rfl⟩)), by exact (MRel.tr MRel.rf f_32), by first | omega | assumption, by first | omega | assumption, by first | omega | assumption⟩)))) | exact False.elim (by omega)) dX10_slope_129
              · skip
                refine lv_ldc hC.x hC.b hC.ow (hC.ts _ TK_X10_206) dX10_slope_107 ?_
                refine lv_goto (tgt := 129) hC.x hC.b dX10_slope_109 (by decide) ?_
                exact reti hC hK hR hS (by first | exact Or.inr (Or.inr (Or.inr ((⟨by first | rfl | exact slm_0 hA (by omega) | exact slm_v hA hB (by omega) (by assumption) (by first | (rw [negL rfl (by omega)]; omega) | omega) (by first | exact Or.inl ⟨by omega, by first | assumption | rfl⟩ | exact Or.inr ⟨by omega, by first | assumption | rfl⟩) (by first | exact Or.inl ⟨by omega, rfl⟩ | exact Or.inr (Or.inl ⟨by omega, rfl⟩) | exact Or.inr (Or.inr ⟨by omega, by omega, rfl⟩)), by exact (MRel.tr MRel.rf f_32), by first | omega | assumption, by first | omega | assumption, by first | omega | assumption⟩)))) | exact False.elim (by omega)) dX10_slope_129
            · skip
              refine lv_aload_n hC.x hC.b dX10_slope_79 rfl (lv_at hl 2 rfl) ?_
              refine rget hC hK hR (ct_model G _ _) rfl uin_X10 45 (by decide) TF_X10_182 rfl dX10_slope_80 ?_
              refine lv_lload hC.x hC.b dX10_slope_83 (lv_at hl 0 rfl) ?_
              refine lv_ldiv hC.x hC.b dX10_slope_85 (ne0L rfl (by omega)) ?_
              refine lv_goto (tgt := 96) hC.x hC.b dX10_slope_86 (by decide) ?_
              refine lv_lstore (lv' := [(6, .long ((t_31 35 45) / v_46)), (4, .long v_46), (3, .int (0 : Int32)), (0, .ref (G.2.1 35)), (1, .int pl), (2, .int wa)]) hC.x hC.b dX10_slope_96 hl (by decide) rfl (fun ls hl => ?_)
              refine lv_lload hC.x hC.b dX10_slope_98 (lv_at hl 0 rfl) ?_
              refine lv_ldc2 hC.x hC.b hC.ow (hC.ts _ TK_X10_204) dX10_slope_100 ?_
              refine bl_le (tgt := 112) (a := ((t_31 35 45) / v_46).toInt) (b := 1000000000) hC.x hC.b rfl rfl dX10_slope_103 dX10_slope_104 (by decide) (fun c_53 => ?_) (fun c_53 => ?_)
              · skip
                refine lv_lload hC.x hC.b dX10_slope_112 (lv_at hl 0 rfl) ?_
                refine lv_ldc2 hC.x hC.b hC.ow (hC.ts _ TK_X10_207) dX10_slope_114 ?_
                refine bl_ge (tgt := 126) (a := ((t_31 35 45) / v_46).toInt) (b := (-1000000000)) hC.x hC.b rfl rfl dX10_slope_117 dX10_slope_118 (by decide) (fun c_54 => ?_) (fun c_54 => ?_)
                · skip
                  refine lv_lload hC.x hC.b dX10_slope_126 (lv_at hl 0 rfl) ?_
                  refine lv_l2i hC.x hC.b dX10_slope_128 rfl ?_
                  exact reti hC hK hR hS (by first | exact Or.inl (⟨by first | rfl | exact slm_0 hA (by omega) | exact slm_v hA hB (by omega) (by assumption) (by first | (rw [negL rfl (by omega)]; omega) | omega) (by first | exact Or.inl ⟨by omega, by first | assumption | rfl⟩ | exact Or.inr ⟨by omega, by first | assumption | rfl⟩) (by first | exact Or.inl ⟨by omega, rfl⟩ | exact Or.inr (Or.inl ⟨by omega, rfl⟩) | exact Or.inr (Or.inr ⟨by omega, by omega, rfl⟩)), by exact (MRel.tr MRel.rf f_32), by first | omega | assumption⟩) | exact Or.inr (Or.inl (⟨by first | rfl | exact slm_0 hA (by omega) | exact slm_v hA hB (by omega) (by assumption) (by first | (rw [negL rfl (by omega)]; omega) | omega) (by first | exact Or.inl ⟨by omega, by first | assumption | rfl⟩ | exact Or.inr ⟨by omega, by first | assumption | rfl⟩) (by first | exact Or.inl ⟨by omega, rfl⟩ | exact Or.inr (Or.inl ⟨by omega, rfl⟩) | exact Or.inr (Or.inr ⟨by omega, by omega, rfl⟩)), by exact (MRel.tr MRel.rf f_32), by first | omega | assumption, by first | omega | assumption, by first | omega | assumption⟩)) | exact Or.inr (Or.inr (Or.inl (⟨by first | rfl | exact slm_0 hA (by omega) | exact slm_v hA hB (by omega) (by assumption) (by first | (rw [negL rfl (by omega)]; omega) | omega) (by first | exact Or.inl ⟨by omega, by first | assumption | rfl⟩ | exact Or.inr ⟨by omega, by first | assumption | rfl⟩) (by first | exact Or.inl ⟨by omega, rfl⟩ | exact Or.inr (Or.inl ⟨by omega, rfl⟩) | exact Or.inr (Or.inr ⟨by omega, by omega, rfl⟩)), by exact (MRel.tr MRel.rf f_32), by first | omega | assumption, by first | omega | assumption, by first | omega | assumption⟩))) | exact Or.inr (Or.inr (Or.inr ((⟨by first | rfl | exact slm_0 hA (by omega) | exact slm_v hA hB (by omega) (by assumption) (by first | (rw [negL rfl (by omega)]; omega) | omega) (by first | exact Or.inl ⟨by omega, by first | assumption | rfl⟩ | exact Or.inr ⟨by omega, by first | assumption | rfl⟩) (by first | exact Or.inl ⟨by omega, rfl⟩ | exact Or.inr (Or.inl ⟨by omega, rfl⟩) | exact Or.inr (Or.inr ⟨by omega, by omega, rfl⟩)), by exact (MRel.tr MRel.rf f_32), by first | omega | assumption, by first | omega | assumption, by first | omega | assumption⟩)))) | exact False.elim (by omega)) dX10_slope_129
                · skip
                  refine lv_ldc hC.x hC.b hC.ow (hC.ts _ TK_X10_209) dX10_slope_121 ?_
                  refine lv_goto (tgt := 129) hC.x hC.b dX10_slope_123 (by decide) ?_
                  exact reti hC hK hR hS (by first | exact Or.inr (Or.inr (Or.inr ((⟨by first | rfl | exact slm_0 hA (by omega) | exact slm_v hA hB (by omega) (by assumption) (by first | (rw [negL rfl (by omega)]; omega) | omega) (by first | exact Or.inl ⟨by omega, by first | assumption | rfl⟩ | exact Or.inr ⟨by omega, by first | assumption | rfl⟩) (by first | exact Or.inl ⟨by omega, rfl⟩ | exact Or.inr (Or.inl ⟨by omega, rfl⟩) | exact Or.inr (Or.inr ⟨by omega, by omega, rfl⟩)), by exact (MRel.tr MRel.rf f_32), by first | omega | assumption, by first | omega | assumption, by first | omega | assumption⟩)))) | exact False.elim (by omega)) dX10_slope_129
              · skip
                refine lv_ldc hC.x hC.b hC.ow (hC.ts _ TK_X10_206) dX10_slope_107 ?_
                refine lv_goto (tgt := 129) hC.x hC.b dX10_slope_109 (by decide) ?_
                exact reti hC hK hR hS (by first | exact Or.inr (Or.inr (Or.inr ((⟨by first | rfl | exact slm_0 hA (by omega) | exact slm_v hA hB (by omega) (by assumption) (by first | (rw [negL rfl (by omega)]; omega) | omega) (by first | exact Or.inl ⟨by omega, by first | assumption | rfl⟩ | exact Or.inr ⟨by omega, by first | assumption | rfl⟩) (by first | exact Or.inl ⟨by omega, rfl⟩ | exact Or.inr (Or.inl ⟨by omega, rfl⟩) | exact Or.inr (Or.inr ⟨by omega, by omega, rfl⟩)), by exact (MRel.tr MRel.rf f_32), by first | omega | assumption, by first | omega | assumption, by first | omega | assumption⟩)))) | exact False.elim (by omega)) dX10_slope_129
        · skip
          refine lv_ldc hC.x hC.b hC.ow (hC.ts _ TK_X10_203) dX10_slope_42 ?_
          exact reti hC hK hR hS (by first | exact Or.inr (Or.inr (Or.inr ((⟨by first | rfl | exact slm_0 hA (by omega) | exact slm_v hA hB (by omega) (by assumption) (by first | (rw [negL rfl (by omega)]; omega) | omega) (by first | exact Or.inl ⟨by omega, by first | assumption | rfl⟩ | exact Or.inr ⟨by omega, by first | assumption | rfl⟩) (by first | exact Or.inl ⟨by omega, rfl⟩ | exact Or.inr (Or.inl ⟨by omega, rfl⟩) | exact Or.inr (Or.inr ⟨by omega, by omega, rfl⟩)), by exact (MRel.tr MRel.rf f_32), by first | omega | assumption, by first | omega | assumption, by first | omega | assumption⟩)))) | exact False.elim (by omega)) dX10_slope_44
      · skip
        have av_55 : (0 : Int32).toInt = 0 := by decide
        refine gov (runV (As := [.int pl, .int (0 : Int32)]) (rest := []) hC hK hR hl.1 (c5_X10_line l hG σ τ pl q (by first | rfl | (rw [show pl.toInt = pl.toInt from rfl]; done) | (rw [show pl.toInt = pl.toInt from rfl]; exact hp_q)) (0 : Int32) (by first | assumption | omega) (by omega) (by first | assumption | omega) (by first | assumption)) (call_b hC.ts TC_X10_line TN_X10 TM_X10_199 hd_X10_line ⟨Nat.le_of_ble_eq_true rfl, Nat.le_of_ble_eq_true rfl⟩) TI_X10_line TS_X10_line (ct_model G _ _) rfl rfl rfl (Nat.le_of_ble_eq_true rfl) dX10_slope_32 ⟨Nat.le_of_ble_eq_true rfl, Nat.le_of_ble_eq_true rfl⟩) hS (fun s_58 t_59 H locs w_57 hR hS => ?_)
        try dsimp only [po5_X10_line] at w_57
        obtain ⟨f_60, f_61, f_62⟩ := w_57
        have hA : LNp s_58 t_59 (LF (pX σ q) (σ 37 q).toInt (σ 35 29).toInt (σ 36 q).toInt) := by first | (rw [← LF_m1 (by assumption)]; assumption) | (rw [← LF_m0 (by assumption)]; assumption)
        have hB : LB (LF (pX σ q) (σ 37 q).toInt (σ 35 29).toInt (σ 36 q).toInt) := LF_lb (pX_R hxb) (by omega)
        have hAb := lnp_a hA hB
        refine lv_aload_n hC.x hC.b dX10_slope_35 rfl (lv_at hl 1 rfl) ?_
        refine rget hC hK hR (ct_model G _ _) rfl uin_X10 44 (by decide) TF_X10_176 rfl dX10_slope_36 ?_
        refine bz_ne (tgt := 45) (a := (s_58 35 44).toInt) (b := 0) hC.x hC.b rfl rfl dX10_slope_39 (by decide) (fun c_63 => ?_) (fun c_63 => ?_)
        · skip
          refine lv_aload_n hC.x hC.b dX10_slope_45 rfl (lv_at hl 1 rfl) ?_
          refine rget hC hK hR (ct_model G _ _) rfl uin_X10 45 (by decide) TF_X10_182 rfl dX10_slope_46 ?_
          refine lv_lconst (v := 0) hC.x hC.b dX10_slope_49 (by decide) ?_
          refine bl_ge (tgt := 62) (a := (t_59 35 45).toInt) (b := 0) hC.x hC.b rfl rfl dX10_slope_50 dX10_slope_51 (by decide) (fun c_64 => ?_) (fun c_64 => ?_)
          · skip
            refine lv_aload_n hC.x hC.b dX10_slope_62 rfl (lv_at hl 1 rfl) ?_
            refine rget hC hK hR (ct_model G _ _) rfl uin_X10 45 (by decide) TF_X10_182 rfl dX10_slope_63 ?_
            refine lv_aload_n hC.x hC.b dX10_slope_66 rfl (lv_at hl 1 rfl) ?_
            refine rget hC hK hR (ct_model G _ _) rfl uin_X10 46 (by decide) TF_X10_186 rfl dX10_slope_67 ?_
            refine golp (runS (As := [.long (t_59 35 45), .long (t_59 35 46)]) (rest := []) hC hK hR hl.1 (c5_X10_common l hG s_58 t_59 (t_59 35 45) (t_59 35 46) (by omega) (by omega)) (call_b hC.ts TC_X10_common TN_X10 TM_X10_222 hd_X10_common ⟨Nat.le_of_ble_eq_true rfl, Nat.le_of_ble_eq_true rfl⟩) TT_X10_common rfl rfl (Nat.le_of_ble_eq_true rfl) dX10_slope_70 ⟨Nat.le_of_ble_eq_true rfl, Nat.le_of_ble_eq_true rfl⟩) hS (fun v_65 H locs w_66 hR hS => ?_)
            obtain ⟨f_67, f_68⟩ := w_66
            refine lv_lstore (lv' := [(4, .long v_65), (3, .int (0 : Int32)), (0, .ref (G.2.1 35)), (1, .int pl), (2, .int wa)]) hC.x hC.b dX10_slope_73 hl (by decide) rfl (fun ls hl => ?_)
            refine lv_iload_n hC.x hC.b dX10_slope_75 rfl (lv_at hl 4 rfl) ?_
            refine bz_ne (tgt := 89) (a := wa.toInt) (b := 0) hC.x hC.b rfl rfl dX10_slope_76 (by decide) (fun c_69 => ?_) (fun c_69 => ?_)
            · skip
              refine lv_aload_n hC.x hC.b dX10_slope_89 rfl (lv_at hl 2 rfl) ?_
              refine rget hC hK hR (ct_model G _ _) rfl uin_X10 46 (by decide) TF_X10_186 rfl dX10_slope_90 ?_
              refine lv_lload hC.x hC.b dX10_slope_93 (lv_at hl 0 rfl) ?_
              refine lv_ldiv hC.x hC.b dX10_slope_95 (ne0L rfl (by omega)) ?_
              refine lv_lstore (lv' := [(6, .long ((t_59 35 46) / v_65)), (4, .long v_65), (3, .int (0 : Int32)), (0, .ref (G.2.1 35)), (1, .int pl), (2, .int wa)]) hC.x hC.b dX10_slope_96 hl (by decide) rfl (fun ls hl => ?_)
              refine lv_lload hC.x hC.b dX10_slope_98 (lv_at hl 0 rfl) ?_
              refine lv_ldc2 hC.x hC.b hC.ow (hC.ts _ TK_X10_204) dX10_slope_100 ?_
              refine bl_le (tgt := 112) (a := ((t_59 35 46) / v_65).toInt) (b := 1000000000) hC.x hC.b rfl rfl dX10_slope_103 dX10_slope_104 (by decide) (fun c_70 => ?_) (fun c_70 => ?_)
              · skip
                refine lv_lload hC.x hC.b dX10_slope_112 (lv_at hl 0 rfl) ?_
                refine lv_ldc2 hC.x hC.b hC.ow (hC.ts _ TK_X10_207) dX10_slope_114 ?_
                refine bl_ge (tgt := 126) (a := ((t_59 35 46) / v_65).toInt) (b := (-1000000000)) hC.x hC.b rfl rfl dX10_slope_117 dX10_slope_118 (by decide) (fun c_71 => ?_) (fun c_71 => ?_)
                · skip
                  refine lv_lload hC.x hC.b dX10_slope_126 (lv_at hl 0 rfl) ?_
                  refine lv_l2i hC.x hC.b dX10_slope_128 rfl ?_
                  exact reti hC hK hR hS (by first | exact Or.inl (⟨by first | rfl | exact slm_0 hA (by omega) | exact slm_v hA hB (by omega) (by assumption) (by first | (rw [negL rfl (by omega)]; omega) | omega) (by first | exact Or.inl ⟨by omega, by first | assumption | rfl⟩ | exact Or.inr ⟨by omega, by first | assumption | rfl⟩) (by first | exact Or.inl ⟨by omega, rfl⟩ | exact Or.inr (Or.inl ⟨by omega, rfl⟩) | exact Or.inr (Or.inr ⟨by omega, by omega, rfl⟩)), by exact (MRel.tr MRel.rf f_60), by first | omega | assumption⟩) | exact Or.inr (Or.inl (⟨by first | rfl | exact slm_0 hA (by omega) | exact slm_v hA hB (by omega) (by assumption) (by first | (rw [negL rfl (by omega)]; omega) | omega) (by first | exact Or.inl ⟨by omega, by first | assumption | rfl⟩ | exact Or.inr ⟨by omega, by first | assumption | rfl⟩) (by first | exact Or.inl ⟨by omega, rfl⟩ | exact Or.inr (Or.inl ⟨by omega, rfl⟩) | exact Or.inr (Or.inr ⟨by omega, by omega, rfl⟩)), by exact (MRel.tr MRel.rf f_60), by first | omega | assumption, by first | omega | assumption, by first | omega | assumption⟩)) | exact Or.inr (Or.inr (Or.inl (⟨by first | rfl | exact slm_0 hA (by omega) | exact slm_v hA hB (by omega) (by assumption) (by first | (rw [negL rfl (by omega)]; omega) | omega) (by first | exact Or.inl ⟨by omega, by first | assumption | rfl⟩ | exact Or.inr ⟨by omega, by first | assumption | rfl⟩) (by first | exact Or.inl ⟨by omega, rfl⟩ | exact Or.inr (Or.inl ⟨by omega, rfl⟩) | exact Or.inr (Or.inr ⟨by omega, by omega, rfl⟩)), by exact (MRel.tr MRel.rf f_60), by first | omega | assumption, by first | omega | assumption, by first | omega | assumption⟩))) | exact Or.inr (Or.inr (Or.inr ((⟨by first | rfl | exact slm_0 hA (by omega) | exact slm_v hA hB (by omega) (by assumption) (by first | (rw [negL rfl (by omega)]; omega) | omega) (by first | exact Or.inl ⟨by omega, by first | assumption | rfl⟩ | exact Or.inr ⟨by omega, by first | assumption | rfl⟩) (by first | exact Or.inl ⟨by omega, rfl⟩ | exact Or.inr (Or.inl ⟨by omega, rfl⟩) | exact Or.inr (Or.inr ⟨by omega, by omega, rfl⟩)), by exact (MRel.tr MRel.rf f_60), by first | omega | assumption, by first | omega | assumption, by first | omega | assumption⟩)))) | exact False.elim (by omega)) dX10_slope_129
                · skip
                  refine lv_ldc hC.x hC.b hC.ow (hC.ts _ TK_X10_209) dX10_slope_121 ?_
                  refine lv_goto (tgt := 129) hC.x hC.b dX10_slope_123 (by decide) ?_
                  exact reti hC hK hR hS (by first | exact Or.inr (Or.inr (Or.inr ((⟨by first | rfl | exact slm_0 hA (by omega) | exact slm_v hA hB (by omega) (by assumption) (by first | (rw [negL rfl (by omega)]; omega) | omega) (by first | exact Or.inl ⟨by omega, by first | assumption | rfl⟩ | exact Or.inr ⟨by omega, by first | assumption | rfl⟩) (by first | exact Or.inl ⟨by omega, rfl⟩ | exact Or.inr (Or.inl ⟨by omega, rfl⟩) | exact Or.inr (Or.inr ⟨by omega, by omega, rfl⟩)), by exact (MRel.tr MRel.rf f_60), by first | omega | assumption, by first | omega | assumption, by first | omega | assumption⟩)))) | exact False.elim (by omega)) dX10_slope_129
              · skip
                refine lv_ldc hC.x hC.b hC.ow (hC.ts _ TK_X10_206) dX10_slope_107 ?_
                refine lv_goto (tgt := 129) hC.x hC.b dX10_slope_109 (by decide) ?_
                exact reti hC hK hR hS (by first | exact Or.inr (Or.inr (Or.inr ((⟨by first | rfl | exact slm_0 hA (by omega) | exact slm_v hA hB (by omega) (by assumption) (by first | (rw [negL rfl (by omega)]; omega) | omega) (by first | exact Or.inl ⟨by omega, by first | assumption | rfl⟩ | exact Or.inr ⟨by omega, by first | assumption | rfl⟩) (by first | exact Or.inl ⟨by omega, rfl⟩ | exact Or.inr (Or.inl ⟨by omega, rfl⟩) | exact Or.inr (Or.inr ⟨by omega, by omega, rfl⟩)), by exact (MRel.tr MRel.rf f_60), by first | omega | assumption, by first | omega | assumption, by first | omega | assumption⟩)))) | exact False.elim (by omega)) dX10_slope_129
            · skip
              refine lv_aload_n hC.x hC.b dX10_slope_79 rfl (lv_at hl 2 rfl) ?_
              refine rget hC hK hR (ct_model G _ _) rfl uin_X10 45 (by decide) TF_X10_182 rfl dX10_slope_80 ?_
              refine lv_lload hC.x hC.b dX10_slope_83 (lv_at hl 0 rfl) ?_
              refine lv_ldiv hC.x hC.b dX10_slope_85 (ne0L rfl (by omega)) ?_
              refine lv_goto (tgt := 96) hC.x hC.b dX10_slope_86 (by decide) ?_
              refine lv_lstore (lv' := [(6, .long ((t_59 35 45) / v_65)), (4, .long v_65), (3, .int (0 : Int32)), (0, .ref (G.2.1 35)), (1, .int pl), (2, .int wa)]) hC.x hC.b dX10_slope_96 hl (by decide) rfl (fun ls hl => ?_)
              refine lv_lload hC.x hC.b dX10_slope_98 (lv_at hl 0 rfl) ?_
              refine lv_ldc2 hC.x hC.b hC.ow (hC.ts _ TK_X10_204) dX10_slope_100 ?_
              refine bl_le (tgt := 112) (a := ((t_59 35 45) / v_65).toInt) (b := 1000000000) hC.x hC.b rfl rfl dX10_slope_103 dX10_slope_104 (by decide) (fun c_72 => ?_) (fun c_72 => ?_)
              · skip
                refine lv_lload hC.x hC.b dX10_slope_112 (lv_at hl 0 rfl) ?_
                refine lv_ldc2 hC.x hC.b hC.ow (hC.ts _ TK_X10_207) dX10_slope_114 ?_
                refine bl_ge (tgt := 126) (a := ((t_59 35 45) / v_65).toInt) (b := (-1000000000)) hC.x hC.b rfl rfl dX10_slope_117 dX10_slope_118 (by decide) (fun c_73 => ?_) (fun c_73 => ?_)
                · skip
                  refine lv_lload hC.x hC.b dX10_slope_126 (lv_at hl 0 rfl) ?_
                  refine lv_l2i hC.x hC.b dX10_slope_128 rfl ?_
                  exact reti hC hK hR hS (by first | exact Or.inl (⟨by first | rfl | exact slm_0 hA (by omega) | exact slm_v hA hB (by omega) (by assumption) (by first | (rw [negL rfl (by omega)]; omega) | omega) (by first | exact Or.inl ⟨by omega, by first | assumption | rfl⟩ | exact Or.inr ⟨by omega, by first | assumption | rfl⟩) (by first | exact Or.inl ⟨by omega, rfl⟩ | exact Or.inr (Or.inl ⟨by omega, rfl⟩) | exact Or.inr (Or.inr ⟨by omega, by omega, rfl⟩)), by exact (MRel.tr MRel.rf f_60), by first | omega | assumption⟩) | exact Or.inr (Or.inl (⟨by first | rfl | exact slm_0 hA (by omega) | exact slm_v hA hB (by omega) (by assumption) (by first | (rw [negL rfl (by omega)]; omega) | omega) (by first | exact Or.inl ⟨by omega, by first | assumption | rfl⟩ | exact Or.inr ⟨by omega, by first | assumption | rfl⟩) (by first | exact Or.inl ⟨by omega, rfl⟩ | exact Or.inr (Or.inl ⟨by omega, rfl⟩) | exact Or.inr (Or.inr ⟨by omega, by omega, rfl⟩)), by exact (MRel.tr MRel.rf f_60), by first | omega | assumption, by first | omega | assumption, by first | omega | assumption⟩)) | exact Or.inr (Or.inr (Or.inl (⟨by first | rfl | exact slm_0 hA (by omega) | exact slm_v hA hB (by omega) (by assumption) (by first | (rw [negL rfl (by omega)]; omega) | omega) (by first | exact Or.inl ⟨by omega, by first | assumption | rfl⟩ | exact Or.inr ⟨by omega, by first | assumption | rfl⟩) (by first | exact Or.inl ⟨by omega, rfl⟩ | exact Or.inr (Or.inl ⟨by omega, rfl⟩) | exact Or.inr (Or.inr ⟨by omega, by omega, rfl⟩)), by exact (MRel.tr MRel.rf f_60), by first | omega | assumption, by first | omega | assumption, by first | omega | assumption⟩))) | exact Or.inr (Or.inr (Or.inr ((⟨by first | rfl | exact slm_0 hA (by omega) | exact slm_v hA hB (by omega) (by assumption) (by first | (rw [negL rfl (by omega)]; omega) | omega) (by first | exact Or.inl ⟨by omega, by first | assumption | rfl⟩ | exact Or.inr ⟨by omega, by first | assumption | rfl⟩) (by first | exact Or.inl ⟨by omega, rfl⟩ | exact Or.inr (Or.inl ⟨by omega, rfl⟩) | exact Or.inr (Or.inr ⟨by omega, by omega, rfl⟩)), by exact (MRel.tr MRel.rf f_60), by first | omega | assumption, by first | omega | assumption, by first | omega | assumption⟩)))) | exact False.elim (by omega)) dX10_slope_129
                · skip
                  refine lv_ldc hC.x hC.b hC.ow (hC.ts _ TK_X10_209) dX10_slope_121 ?_
                  refine lv_goto (tgt := 129) hC.x hC.b dX10_slope_123 (by decide) ?_
                  exact reti hC hK hR hS (by first | exact Or.inr (Or.inr (Or.inr ((⟨by first | rfl | exact slm_0 hA (by omega) | exact slm_v hA hB (by omega) (by assumption) (by first | (rw [negL rfl (by omega)]; omega) | omega) (by first | exact Or.inl ⟨by omega, by first | assumption | rfl⟩ | exact Or.inr ⟨by omega, by first | assumption | rfl⟩) (by first | exact Or.inl ⟨by omega, rfl⟩ | exact Or.inr (Or.inl ⟨by omega, rfl⟩) | exact Or.inr (Or.inr ⟨by omega, by omega, rfl⟩)), by exact (MRel.tr MRel.rf f_60), by first | omega | assumption, by first | omega | assumption, by first | omega | assumption⟩)))) | exact False.elim (by omega)) dX10_slope_129
              · skip
                refine lv_ldc hC.x hC.b hC.ow (hC.ts _ TK_X10_206) dX10_slope_107 ?_
                refine lv_goto (tgt := 129) hC.x hC.b dX10_slope_109 (by decide) ?_
                exact reti hC hK hR hS (by first | exact Or.inr (Or.inr (Or.inr ((⟨by first | rfl | exact slm_0 hA (by omega) | exact slm_v hA hB (by omega) (by assumption) (by first | (rw [negL rfl (by omega)]; omega) | omega) (by first | exact Or.inl ⟨by omega, by first | assumption | rfl⟩ | exact Or.inr ⟨by omega, by first | assumption | rfl⟩) (by first | exact Or.inl ⟨by omega, rfl⟩ | exact Or.inr (Or.inl ⟨by omega, rfl⟩) | exact Or.inr (Or.inr ⟨by omega, by omega, rfl⟩)), by exact (MRel.tr MRel.rf f_60), by first | omega | assumption, by first | omega | assumption, by first | omega | assumption⟩)))) | exact False.elim (by omega)) dX10_slope_129
          · skip
            refine lv_aload_n hC.x hC.b dX10_slope_54 rfl (lv_at hl 1 rfl) ?_
            refine rget hC hK hR (ct_model G _ _) rfl uin_X10 45 (by decide) TF_X10_182 rfl dX10_slope_55 ?_
            refine lv_lneg hC.x hC.b dX10_slope_58 ?_
            refine lv_goto (tgt := 66) hC.x hC.b dX10_slope_59 (by decide) ?_
            refine lv_aload_n hC.x hC.b dX10_slope_66 rfl (lv_at hl 1 rfl) ?_
            refine rget hC hK hR (ct_model G _ _) rfl uin_X10 46 (by decide) TF_X10_186 rfl dX10_slope_67 ?_
            refine golp (runS (As := [.long (-(t_59 35 45)), .long (t_59 35 46)]) (rest := []) hC hK hR hl.1 (c5_X10_common l hG s_58 t_59 (-(t_59 35 45)) (t_59 35 46) (by omega) (by omega)) (call_b hC.ts TC_X10_common TN_X10 TM_X10_222 hd_X10_common ⟨Nat.le_of_ble_eq_true rfl, Nat.le_of_ble_eq_true rfl⟩) TT_X10_common rfl rfl (Nat.le_of_ble_eq_true rfl) dX10_slope_70 ⟨Nat.le_of_ble_eq_true rfl, Nat.le_of_ble_eq_true rfl⟩) hS (fun v_74 H locs w_75 hR hS => ?_)
            obtain ⟨f_76, f_77⟩ := w_75
            refine lv_lstore (lv' := [(4, .long v_74), (3, .int (0 : Int32)), (0, .ref (G.2.1 35)), (1, .int pl), (2, .int wa)]) hC.x hC.b dX10_slope_73 hl (by decide) rfl (fun ls hl => ?_)
            refine lv_iload_n hC.x hC.b dX10_slope_75 rfl (lv_at hl 4 rfl) ?_
            refine bz_ne (tgt := 89) (a := wa.toInt) (b := 0) hC.x hC.b rfl rfl dX10_slope_76 (by decide) (fun c_78 => ?_) (fun c_78 => ?_)
            · skip
              refine lv_aload_n hC.x hC.b dX10_slope_89 rfl (lv_at hl 2 rfl) ?_
              refine rget hC hK hR (ct_model G _ _) rfl uin_X10 46 (by decide) TF_X10_186 rfl dX10_slope_90 ?_
              refine lv_lload hC.x hC.b dX10_slope_93 (lv_at hl 0 rfl) ?_
              refine lv_ldiv hC.x hC.b dX10_slope_95 (ne0L rfl (by omega)) ?_
              refine lv_lstore (lv' := [(6, .long ((t_59 35 46) / v_74)), (4, .long v_74), (3, .int (0 : Int32)), (0, .ref (G.2.1 35)), (1, .int pl), (2, .int wa)]) hC.x hC.b dX10_slope_96 hl (by decide) rfl (fun ls hl => ?_)
              refine lv_lload hC.x hC.b dX10_slope_98 (lv_at hl 0 rfl) ?_
              refine lv_ldc2 hC.x hC.b hC.ow (hC.ts _ TK_X10_204) dX10_slope_100 ?_
              refine bl_le (tgt := 112) (a := ((t_59 35 46) / v_74).toInt) (b := 1000000000) hC.x hC.b rfl rfl dX10_slope_103 dX10_slope_104 (by decide) (fun c_79 => ?_) (fun c_79 => ?_)
              · skip
                refine lv_lload hC.x hC.b dX10_slope_112 (lv_at hl 0 rfl) ?_
                refine lv_ldc2 hC.x hC.b hC.ow (hC.ts _ TK_X10_207) dX10_slope_114 ?_
                refine bl_ge (tgt := 126) (a := ((t_59 35 46) / v_74).toInt) (b := (-1000000000)) hC.x hC.b rfl rfl dX10_slope_117 dX10_slope_118 (by decide) (fun c_80 => ?_) (fun c_80 => ?_)
                · skip
                  refine lv_lload hC.x hC.b dX10_slope_126 (lv_at hl 0 rfl) ?_
                  refine lv_l2i hC.x hC.b dX10_slope_128 rfl ?_
                  exact reti hC hK hR hS (by first | exact Or.inl (⟨by first | rfl | exact slm_0 hA (by omega) | exact slm_v hA hB (by omega) (by assumption) (by first | (rw [negL rfl (by omega)]; omega) | omega) (by first | exact Or.inl ⟨by omega, by first | assumption | rfl⟩ | exact Or.inr ⟨by omega, by first | assumption | rfl⟩) (by first | exact Or.inl ⟨by omega, rfl⟩ | exact Or.inr (Or.inl ⟨by omega, rfl⟩) | exact Or.inr (Or.inr ⟨by omega, by omega, rfl⟩)), by exact (MRel.tr MRel.rf f_60), by first | omega | assumption⟩) | exact Or.inr (Or.inl (⟨by first | rfl | exact slm_0 hA (by omega) | exact slm_v hA hB (by omega) (by assumption) (by first | (rw [negL rfl (by omega)]; omega) | omega) (by first | exact Or.inl ⟨by omega, by first | assumption | rfl⟩ | exact Or.inr ⟨by omega, by first | assumption | rfl⟩) (by first | exact Or.inl ⟨by omega, rfl⟩ | exact Or.inr (Or.inl ⟨by omega, rfl⟩) | exact Or.inr (Or.inr ⟨by omega, by omega, rfl⟩)), by exact (MRel.tr MRel.rf f_60), by first | omega | assumption, by first | omega | assumption, by first | omega | assumption⟩)) | exact Or.inr (Or.inr (Or.inl (⟨by first | rfl | exact slm_0 hA (by omega) | exact slm_v hA hB (by omega) (by assumption) (by first | (rw [negL rfl (by omega)]; omega) | omega) (by first | exact Or.inl ⟨by omega, by first | assumption | rfl⟩ | exact Or.inr ⟨by omega, by first | assumption | rfl⟩) (by first | exact Or.inl ⟨by omega, rfl⟩ | exact Or.inr (Or.inl ⟨by omega, rfl⟩) | exact Or.inr (Or.inr ⟨by omega, by omega, rfl⟩)), by exact (MRel.tr MRel.rf f_60), by first | omega | assumption, by first | omega | assumption, by first | omega | assumption⟩))) | exact Or.inr (Or.inr (Or.inr ((⟨by first | rfl | exact slm_0 hA (by omega) | exact slm_v hA hB (by omega) (by assumption) (by first | (rw [negL rfl (by omega)]; omega) | omega) (by first | exact Or.inl ⟨by omega, by first | assumption | rfl⟩ | exact Or.inr ⟨by omega, by first | assumption | rfl⟩) (by first | exact Or.inl ⟨by omega, rfl⟩ | exact Or.inr (Or.inl ⟨by omega, rfl⟩) | exact Or.inr (Or.inr ⟨by omega, by omega, rfl⟩)), by exact (MRel.tr MRel.rf f_60), by first | omega | assumption, by first | omega | assumption, by first | omega | assumption⟩)))) | exact False.elim (by omega)) dX10_slope_129
                · skip
                  refine lv_ldc hC.x hC.b hC.ow (hC.ts _ TK_X10_209) dX10_slope_121 ?_
                  refine lv_goto (tgt := 129) hC.x hC.b dX10_slope_123 (by decide) ?_
                  exact reti hC hK hR hS (by first | exact Or.inr (Or.inr (Or.inr ((⟨by first | rfl | exact slm_0 hA (by omega) | exact slm_v hA hB (by omega) (by assumption) (by first | (rw [negL rfl (by omega)]; omega) | omega) (by first | exact Or.inl ⟨by omega, by first | assumption | rfl⟩ | exact Or.inr ⟨by omega, by first | assumption | rfl⟩) (by first | exact Or.inl ⟨by omega, rfl⟩ | exact Or.inr (Or.inl ⟨by omega, rfl⟩) | exact Or.inr (Or.inr ⟨by omega, by omega, rfl⟩)), by exact (MRel.tr MRel.rf f_60), by first | omega | assumption, by first | omega | assumption, by first | omega | assumption⟩)))) | exact False.elim (by omega)) dX10_slope_129
              · skip
                refine lv_ldc hC.x hC.b hC.ow (hC.ts _ TK_X10_206) dX10_slope_107 ?_
                refine lv_goto (tgt := 129) hC.x hC.b dX10_slope_109 (by decide) ?_
                exact reti hC hK hR hS (by first | exact Or.inr (Or.inr (Or.inr ((⟨by first | rfl | exact slm_0 hA (by omega) | exact slm_v hA hB (by omega) (by assumption) (by first | (rw [negL rfl (by omega)]; omega) | omega) (by first | exact Or.inl ⟨by omega, by first | assumption | rfl⟩ | exact Or.inr ⟨by omega, by first | assumption | rfl⟩) (by first | exact Or.inl ⟨by omega, rfl⟩ | exact Or.inr (Or.inl ⟨by omega, rfl⟩) | exact Or.inr (Or.inr ⟨by omega, by omega, rfl⟩)), by exact (MRel.tr MRel.rf f_60), by first | omega | assumption, by first | omega | assumption, by first | omega | assumption⟩)))) | exact False.elim (by omega)) dX10_slope_129
            · skip
              refine lv_aload_n hC.x hC.b dX10_slope_79 rfl (lv_at hl 2 rfl) ?_
              refine rget hC hK hR (ct_model G _ _) rfl uin_X10 45 (by decide) TF_X10_182 rfl dX10_slope_80 ?_
              refine lv_lload hC.x hC.b dX10_slope_83 (lv_at hl 0 rfl) ?_
              refine lv_ldiv hC.x hC.b dX10_slope_85 (ne0L rfl (by omega)) ?_
              refine lv_goto (tgt := 96) hC.x hC.b dX10_slope_86 (by decide) ?_
              refine lv_lstore (lv' := [(6, .long ((t_59 35 45) / v_74)), (4, .long v_74), (3, .int (0 : Int32)), (0, .ref (G.2.1 35)), (1, .int pl), (2, .int wa)]) hC.x hC.b dX10_slope_96 hl (by decide) rfl (fun ls hl => ?_)
              refine lv_lload hC.x hC.b dX10_slope_98 (lv_at hl 0 rfl) ?_
              refine lv_ldc2 hC.x hC.b hC.ow (hC.ts _ TK_X10_204) dX10_slope_100 ?_
              refine bl_le (tgt := 112) (a := ((t_59 35 45) / v_74).toInt) (b := 1000000000) hC.x hC.b rfl rfl dX10_slope_103 dX10_slope_104 (by decide) (fun c_81 => ?_) (fun c_81 => ?_)
              · skip
                refine lv_lload hC.x hC.b dX10_slope_112 (lv_at hl 0 rfl) ?_
                refine lv_ldc2 hC.x hC.b hC.ow (hC.ts _ TK_X10_207) dX10_slope_114 ?_
                refine bl_ge (tgt := 126) (a := ((t_59 35 45) / v_74).toInt) (b := (-1000000000)) hC.x hC.b rfl rfl dX10_slope_117 dX10_slope_118 (by decide) (fun c_82 => ?_) (fun c_82 => ?_)
                · skip
                  refine lv_lload hC.x hC.b dX10_slope_126 (lv_at hl 0 rfl) ?_
                  refine lv_l2i hC.x hC.b dX10_slope_128 rfl ?_
                  exact reti hC hK hR hS (by first | exact Or.inl (⟨by first | rfl | exact slm_0 hA (by omega) | exact slm_v hA hB (by omega) (by assumption) (by first | (rw [negL rfl (by omega)]; omega) | omega) (by first | exact Or.inl ⟨by omega, by first | assumption | rfl⟩ | exact Or.inr ⟨by omega, by first | assumption | rfl⟩) (by first | exact Or.inl ⟨by omega, rfl⟩ | exact Or.inr (Or.inl ⟨by omega, rfl⟩) | exact Or.inr (Or.inr ⟨by omega, by omega, rfl⟩)), by exact (MRel.tr MRel.rf f_60), by first | omega | assumption⟩) | exact Or.inr (Or.inl (⟨by first | rfl | exact slm_0 hA (by omega) | exact slm_v hA hB (by omega) (by assumption) (by first | (rw [negL rfl (by omega)]; omega) | omega) (by first | exact Or.inl ⟨by omega, by first | assumption | rfl⟩ | exact Or.inr ⟨by omega, by first | assumption | rfl⟩) (by first | exact Or.inl ⟨by omega, rfl⟩ | exact Or.inr (Or.inl ⟨by omega, rfl⟩) | exact Or.inr (Or.inr ⟨by omega, by omega, rfl⟩)), by exact (MRel.tr MRel.rf f_60), by first | omega | assumption, by first | omega | assumption, by first | omega | assumption⟩)) | exact Or.inr (Or.inr (Or.inl (⟨by first | rfl | exact slm_0 hA (by omega) | exact slm_v hA hB (by omega) (by assumption) (by first | (rw [negL rfl (by omega)]; omega) | omega) (by first | exact Or.inl ⟨by omega, by first | assumption | rfl⟩ | exact Or.inr ⟨by omega, by first | assumption | rfl⟩) (by first | exact Or.inl ⟨by omega, rfl⟩ | exact Or.inr (Or.inl ⟨by omega, rfl⟩) | exact Or.inr (Or.inr ⟨by omega, by omega, rfl⟩)), by exact (MRel.tr MRel.rf f_60), by first | omega | assumption, by first | omega | assumption, by first | omega | assumption⟩))) | exact Or.inr (Or.inr (Or.inr ((⟨by first | rfl | exact slm_0 hA (by omega) | exact slm_v hA hB (by omega) (by assumption) (by first | (rw [negL rfl (by omega)]; omega) | omega) (by first | exact Or.inl ⟨by omega, by first | assumption | rfl⟩ | exact Or.inr ⟨by omega, by first | assumption | rfl⟩) (by first | exact Or.inl ⟨by omega, rfl⟩ | exact Or.inr (Or.inl ⟨by omega, rfl⟩) | exact Or.inr (Or.inr ⟨by omega, by omega, rfl⟩)), by exact (MRel.tr MRel.rf f_60), by first | omega | assumption, by first | omega | assumption, by first | omega | assumption⟩)))) | exact False.elim (by omega)) dX10_slope_129
                · skip
                  refine lv_ldc hC.x hC.b hC.ow (hC.ts _ TK_X10_209) dX10_slope_121 ?_
                  refine lv_goto (tgt := 129) hC.x hC.b dX10_slope_123 (by decide) ?_
                  exact reti hC hK hR hS (by first | exact Or.inr (Or.inr (Or.inr ((⟨by first | rfl | exact slm_0 hA (by omega) | exact slm_v hA hB (by omega) (by assumption) (by first | (rw [negL rfl (by omega)]; omega) | omega) (by first | exact Or.inl ⟨by omega, by first | assumption | rfl⟩ | exact Or.inr ⟨by omega, by first | assumption | rfl⟩) (by first | exact Or.inl ⟨by omega, rfl⟩ | exact Or.inr (Or.inl ⟨by omega, rfl⟩) | exact Or.inr (Or.inr ⟨by omega, by omega, rfl⟩)), by exact (MRel.tr MRel.rf f_60), by first | omega | assumption, by first | omega | assumption, by first | omega | assumption⟩)))) | exact False.elim (by omega)) dX10_slope_129
              · skip
                refine lv_ldc hC.x hC.b hC.ow (hC.ts _ TK_X10_206) dX10_slope_107 ?_
                refine lv_goto (tgt := 129) hC.x hC.b dX10_slope_109 (by decide) ?_
                exact reti hC hK hR hS (by first | exact Or.inr (Or.inr (Or.inr ((⟨by first | rfl | exact slm_0 hA (by omega) | exact slm_v hA hB (by omega) (by assumption) (by first | (rw [negL rfl (by omega)]; omega) | omega) (by first | exact Or.inl ⟨by omega, by first | assumption | rfl⟩ | exact Or.inr ⟨by omega, by first | assumption | rfl⟩) (by first | exact Or.inl ⟨by omega, rfl⟩ | exact Or.inr (Or.inl ⟨by omega, rfl⟩) | exact Or.inr (Or.inr ⟨by omega, by omega, rfl⟩)), by exact (MRel.tr MRel.rf f_60), by first | omega | assumption, by first | omega | assumption, by first | omega | assumption⟩)))) | exact False.elim (by omega)) dX10_slope_129
        · skip
          refine lv_ldc hC.x hC.b hC.ow (hC.ts _ TK_X10_203) dX10_slope_42 ?_
          exact reti hC hK hR hS (by first | exact Or.inr (Or.inr (Or.inr ((⟨by first | rfl | exact slm_0 hA (by omega) | exact slm_v hA hB (by omega) (by assumption) (by first | (rw [negL rfl (by omega)]; omega) | omega) (by first | exact Or.inl ⟨by omega, by first | assumption | rfl⟩ | exact Or.inr ⟨by omega, by first | assumption | rfl⟩) (by first | exact Or.inl ⟨by omega, rfl⟩ | exact Or.inr (Or.inl ⟨by omega, rfl⟩) | exact Or.inr (Or.inr ⟨by omega, by omega, rfl⟩)), by exact (MRel.tr MRel.rf f_60), by first | omega | assumption, by first | omega | assumption, by first | omega | assumption⟩)))) | exact False.elim (by omega)) dX10_slope_44
    · skip
      refine bz_ne (tgt := 25) (a := 0) (b := 0) hC.x hC.b rfl rfl dX10_slope_20 (by decide) (fun c_83 => absurd c_83 (by decide)) (fun _ => ?_)
      refine lv_iconst (v := (-1)) hC.x hC.b dX10_slope_23 (by decide) ?_
      exact reti hC hK hR hS (by first | exact Or.inl (⟨by first | rfl | exact slm_0 hA (by omega) | exact slm_v hA hB (by omega) (by assumption) (by first | (rw [negL rfl (by omega)]; omega) | omega) (by first | exact Or.inl ⟨by omega, by first | assumption | rfl⟩ | exact Or.inr ⟨by omega, by first | assumption | rfl⟩) (by first | exact Or.inl ⟨by omega, rfl⟩ | exact Or.inr (Or.inl ⟨by omega, rfl⟩) | exact Or.inr (Or.inr ⟨by omega, by omega, rfl⟩)), by exact MRel.rf, by first | omega | assumption⟩) | exact Or.inr (Or.inr (Or.inl (⟨by first | rfl | exact slm_0 hA (by omega) | exact slm_v hA hB (by omega) (by assumption) (by first | (rw [negL rfl (by omega)]; omega) | omega) (by first | exact Or.inl ⟨by omega, by first | assumption | rfl⟩ | exact Or.inr ⟨by omega, by first | assumption | rfl⟩) (by first | exact Or.inl ⟨by omega, rfl⟩ | exact Or.inr (Or.inl ⟨by omega, rfl⟩) | exact Or.inr (Or.inr ⟨by omega, by omega, rfl⟩)), by exact MRel.rf, by first | omega | assumption, by first | omega | assumption, by first | omega | assumption⟩))) | exact Or.inr (Or.inr (Or.inr ((⟨by first | rfl | exact slm_0 hA (by omega) | exact slm_v hA hB (by omega) (by assumption) (by first | (rw [negL rfl (by omega)]; omega) | omega) (by first | exact Or.inl ⟨by omega, by first | assumption | rfl⟩ | exact Or.inr ⟨by omega, by first | assumption | rfl⟩) (by first | exact Or.inl ⟨by omega, rfl⟩ | exact Or.inr (Or.inl ⟨by omega, rfl⟩) | exact Or.inr (Or.inr ⟨by omega, by omega, rfl⟩)), by exact MRel.rf, by first | omega | assumption, by first | omega | assumption, by first | omega | assumption⟩)))) | exact False.elim (by omega)) dX10_slope_24
  · skip
    refine lv_istore_n (lv' := [(3, .int (-2 : Int32)), (0, .ref (G.2.1 35)), (1, .int pl), (2, .int wa)]) hC.x hC.b dX10_slope_7 rfl hl (by decide) rfl (fun ls hl => ?_)
    refine lv_iload_n hC.x hC.b dX10_slope_8 rfl (lv_at hl 0 rfl) ?_
    refine bz_eq (tgt := 14) (a := (-2)) (b := 0) hC.x hC.b rfl rfl dX10_slope_9 (by decide) (fun c_84 => absurd c_84 (by decide)) (fun _ => ?_)
    refine lv_iload_n hC.x hC.b dX10_slope_12 rfl (lv_at hl 0 rfl) ?_
    exact reti hC hK hR hS (by first | exact Or.inr (Or.inl (⟨by first | rfl | exact slm_0 hA (by omega) | exact slm_v hA hB (by omega) (by assumption) (by first | (rw [negL rfl (by omega)]; omega) | omega) (by first | exact Or.inl ⟨by omega, by first | assumption | rfl⟩ | exact Or.inr ⟨by omega, by first | assumption | rfl⟩) (by first | exact Or.inl ⟨by omega, rfl⟩ | exact Or.inr (Or.inl ⟨by omega, rfl⟩) | exact Or.inr (Or.inr ⟨by omega, by omega, rfl⟩)), by exact MRel.rf, by first | omega | assumption, by first | omega | assumption, by first | omega | assumption⟩)) | exact Or.inr (Or.inr (Or.inr ((⟨by first | rfl | exact slm_0 hA (by omega) | exact slm_v hA hB (by omega) (by assumption) (by first | (rw [negL rfl (by omega)]; omega) | omega) (by first | exact Or.inl ⟨by omega, by first | assumption | rfl⟩ | exact Or.inr ⟨by omega, by first | assumption | rfl⟩) (by first | exact Or.inl ⟨by omega, rfl⟩ | exact Or.inr (Or.inl ⟨by omega, rfl⟩) | exact Or.inr (Or.inr ⟨by omega, by omega, rfl⟩)), by exact MRel.rf, by first | omega | assumption, by first | omega | assumption, by first | omega | assumption⟩)))) | exact False.elim (by omega)) dX10_slope_13
