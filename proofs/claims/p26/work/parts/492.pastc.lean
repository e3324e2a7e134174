/-! ===== the class's steps through the past ===== -/
/-- what a clock of the class has to be -/
def KQ6 (σ : SI) (q : Nat) (hr : Int32) : Prop := (2 ≤ (σ (80 + q) 2).toInt ∧ (σ (80 + q) 2).toInt ≤ 12) ∧ (1 ≤ (σ (80 + q) 3).toInt ∧ (σ (80 + q) 3).toInt ≤ 12) ∧ (0 ≤ (σ (80 + q) 8).toInt ∧ (σ (80 + q) 8).toInt ≤ hr.toInt) ∧ XR (xC σ 24 q) ∧ MR6 (xC σ 26 q)
theorem KQ6.ex {σ s : SI} {q : Nat} {hr : Int32} (h : KQ6 σ q hr) (e2 : s (80 + q) 2 = σ (80 + q) 2) (e3 : s (80 + q) 3 = σ (80 + q) 3) (e8 : s (80 + q) 8 = σ (80 + q) 8) (e24 : s 24 = σ 24) (e26 : s 26 = σ 26) : KQ6 s q hr := by
  unfold KQ6
  rw [xC_ex e8 e24, xC_ex e8 e26, e2, e3, e8]
  exact h
theorem KQ6.f {σ s : SI} {q : Nat} {hr : Int32} (h : KQ6 σ q hr) (r : Fr (fun k => 18 ≤ k ∧ k ≤ 20) σ s) : KQ6 s q hr := by
  have e80 : s (80 + q) = σ (80 + q) := r _ (by omega)
  exact h.ex (by rw [e80]) (by rw [e80]) (by rw [e80]) (r 24 (by omega)) (r 26 (by omega))
/-- what a clock of the class has to be where only what was MISSED is looked at -/
def KM6 (σ : SI) (q : Nat) (hr : Int32) : Prop := (1 ≤ (σ (80 + q) 3).toInt ∧ (σ (80 + q) 3).toInt ≤ 12) ∧ (0 ≤ (σ (80 + q) 8).toInt ∧ (σ (80 + q) 8).toInt ≤ hr.toInt) ∧ MR6 (xC σ 26 q)
theorem KQ6.m {σ : SI} {q : Nat} {hr : Int32} (h : KQ6 σ q hr) : KM6 σ q hr := ⟨h.2.1, h.2.2.1, h.2.2.2.2⟩
theorem KM6.ex {σ s : SI} {q : Nat} {hr : Int32} (h : KM6 σ q hr) (e3 : s (80 + q) 3 = σ (80 + q) 3) (e8 : s (80 + q) 8 = σ (80 + q) 8) (e26 : s 26 = σ 26) : KM6 s q hr := by
  unfold KM6
  rw [xC_ex e8 e26, e3, e8]
  exact h
theorem KM6.f {σ s : SI} {q : Nat} {hr : Int32} (h : KM6 σ q hr) (r : Fr (fun k => 18 ≤ k ∧ k ≤ 20) σ s) : KM6 s q hr := by
  have e80 : s (80 + q) = σ (80 + q) := r _ (by omega)
  exact h.ex (by rw [e80]) (by rw [e80]) (r 26 (by omega))
theorem xC_f {σ s : SI} {k q : Nat} (r : Fr (fun k => 18 ≤ k ∧ k ≤ 20) σ s) (hk : 20 < k) : xC s k q = xC σ k q := by
  have e80 : s (80 + q) = σ (80 + q) := r _ (by omega)
  exact xC_ex (by rw [e80]) (r k (by omega))
theorem ofC_x {σ s : SI} {wa t : Int32} {q w : Nat} (hw : wa.toInt = (w : Int)) (w5 : w < 5) (hq : q < 24) (e : s (24 + w) = σ (24 + w)) (hs : (σ (80 + q) 8).toInt ≤ t.toInt) : ofC s wa t (nI q) = xC σ (24 + w) q t.toInt := by
  rw [ofC_r hw w5 hq, xC_r hs]
  unfold rC
  rw [e]
def LNe (σ : SI) (τ : SL) (k : Nat) (L : L5) : Prop := σ k 0 = L.1 ∧ τ k 1 = L.2.1 ∧ τ k 2 = L.2.2.1 ∧ τ k 3 = L.2.2.2.1 ∧ τ k 4 = L.2.2.2.2
def LKf (σ σ1 : SI) (τ τ1 : SL) (k : Nat) : Prop := ∀ o, o ≠ k → σ1 o = σ o ∧ τ1 o = τ o
def LAd (σ : SI) (τ : SL) (σ1 : SI) (τ1 : SL) (k : Nat) (ta xa : Int64) : Prop := σ1 k 0 = σ k 0 + 1 ∧ τ1 k 1 = τ k 1 + ta ∧ τ1 k 2 = τ k 2 + xa ∧ τ1 k 3 = τ k 3 + ta * ta ∧ τ1 k 4 = τ k 4 + ta * xa
def ahd (f : Int → Int32) (lo : Int) : Nat → Int32
  | 0 => 2000000000
  | n + 1 => f (lo + (n : Int))
section PASTC
variable {f : Int → Int32} {lo h sp kd : Int} {n k k' : Nat} {σ σ1 : SI} {τ τ1 : SL} {t hr x x3 : Int32} {L : L5}
theorem LNe.kp (r : LKf σ σ1 τ τ1 k') (h : LNe σ τ k L) (hne : k ≠ k') : LNe σ1 τ1 k L := by
  unfold LNe
  rw [(r k hne).1, (r k hne).2]
  exact h
theorem LNe.z0 {g : Int → Option Int64} (h : LNe σ τ k (0, 0, 0, 0, 0)) : LNe σ τ k (LN g lo sp 0) := h
theorem LNe.u18 {j : Nat} {y : Int64} (h : LNe σ τ k L) (hk : k ≠ 18) : LNe σ (up2 τ 18 j y) k L := by
  unfold LNe
  rw [up2_ne hk]
  exact h
theorem ta_eq (ht : t.toInt = lo + (n : Int)) (h1 : hr.toInt ≤ lo + 12) (h2 : lo + (n : Int) < hr.toInt) : (t - hr).toInt64 = Int64.ofInt (lo + (n : Int) - hr.toInt) := by
  have e : (t - hr).toInt = t.toInt - hr.toInt := subI rfl rfl (by omega) (by omega)
  exact i64_ext ((i2lI e).trans (by rw [ofL (by omega) (by omega)]; omega))
theorem LE_s {g : Int → Option Int64} {y : Int64} (hi : LNe σ τ k (LN g lo hr.toInt n)) (hA : LAd σ τ σ1 τ1 k (t - hr).toInt64 y) (ht : t.toInt = lo + (n : Int)) (h1 : hr.toInt ≤ lo + 12) (h2 : lo + (n : Int) < hr.toInt) (hg : g (lo + (n : Int)) = some y) : LNe σ1 τ1 k (LN g lo hr.toInt (n + 1)) := by
  obtain ⟨a0, a1, a2, a3, a4⟩ := hi
  obtain ⟨b0, b1, b2, b3, b4⟩ := hA
  rw [ta_eq ht h1 h2] at b1 b3 b4
  rw [LN_s hg]
  exact ⟨by rw [b0, a0], by rw [b1, a1], by rw [b2, a2], by rw [b3, a3], by rw [b4, a4]⟩
theorem LE1_n (hi : LNe σ τ k (LN (fX f) lo h n)) (ht : t.toInt = lo + (n : Int)) (ex : x = f t.toInt) (hx : x.toInt = 2000000000) : LNe σ τ k (LN (fX f) lo h (n + 1)) := by
  rw [LN_n (by unfold fX; rw [← ht, ← ex, if_pos hx])]
  exact hi
theorem LE1_s (hi : LNe σ τ k (LN (fX f) lo hr.toInt n)) (hA : LAd σ τ σ1 τ1 k (t - hr).toInt64 x.toInt64) (ht : t.toInt = lo + (n : Int)) (h1 : hr.toInt ≤ lo + 12) (h2 : lo + (n : Int) < hr.toInt) (ex : x = f t.toInt) (hx : x.toInt ≠ 2000000000) : LNe σ1 τ1 k (LN (fX f) lo hr.toInt (n + 1)) :=
  LE_s hi hA ht h1 h2 (by unfold fX; rw [← ht, ← ex, if_neg hx])
theorem LE2_n (hi : LNe σ τ k (LN (fG f lo) lo h n)) (ht : t.toInt = lo + (n : Int)) (ex : x = f t.toInt) (e3 : x3 = ahd f lo n) (hx : x.toInt = 2000000000 ∨ x3.toInt = 2000000000) : LNe σ τ k (LN (fG f lo) lo h (n + 1)) := by
  rw [LN_n]
  · exact hi
  · unfold fG
    rw [← ht, ← ex]
    refine if_pos ?_
    rcases hx with hx | hx
    · exact Or.inl hx
    · cases n with
      | zero => exact Or.inr (Or.inl (by omega))
      | succ n =>
        have e : x3 = f (lo + (n : Int)) := e3
        rw [e] at hx
        rw [show t.toInt - 1 = lo + (n : Int) by omega]
        exact Or.inr (Or.inr hx)
theorem LE2_s (hi : LNe σ τ k (LN (fG f lo) lo hr.toInt n)) (hA : LAd σ τ σ1 τ1 k (t - hr).toInt64 (x.toInt64 - x3.toInt64)) (ht : t.toInt = lo + (n : Int)) (h1 : hr.toInt ≤ lo + 12) (h2 : lo + (n : Int) < hr.toInt) (ex : x = f t.toInt) (e3 : x3 = ahd f lo n) (hx : x.toInt ≠ 2000000000) (hx3 : x3.toInt ≠ 2000000000) : LNe σ1 τ1 k (LN (fG f lo) lo hr.toInt (n + 1)) := by
  refine LE_s hi hA ht h1 h2 ?_
  cases n with
  | zero =>
    have e : x3 = 2000000000 := e3
    rw [e] at hx3
    exact absurd (by decide) hx3
  | succ n =>
    have e : x3 = f (lo + (n : Int)) := e3
    have e1 : lo + ((n + 1 : Nat) : Int) - 1 = lo + (n : Int) := by omega
    unfold fG
    rw [e1, ← e, ← ht, ← ex]
    exact if_neg (by omega)
theorem ahd_s (ht : t.toInt = lo + (n : Int)) (ex : x = f t.toInt) : x = ahd f lo (n + 1) := by
  rw [ex, ht]
  rfl
theorem ahd_e (hs : 2 ≤ sp) (e3 : x3 = ahd f (h - sp) sp.toNat) : x3 = f (h - 1) := by
  obtain ⟨m, hm⟩ : ∃ m : Nat, sp.toNat = m + 1 := ⟨sp.toNat - 1, by omega⟩
  rw [hm] at e3
  have e : x3 = f (h - sp + (m : Int)) := e3
  rw [e, show h - sp + (m : Int) = h - 1 by omega]
theorem bG_n (hi : LNe σ τ k (LG f sp h)) (hs : 2 ≤ sp) (e3 : x3 = ahd f (h - sp) sp.toNat) (hn : kd ≠ 2 ∨ (σ k 0).toInt < 2 ∨ x3.toInt = 2000000000) : ¬ bGp f sp h kd := by
  rintro ⟨b1, b2, b3⟩
  have e := ahd_e hs e3
  rw [← e] at b3
  have b2 : 2 ≤ (LG f sp h).1.toInt := b2
  rw [← hi.1] at b2
  omega
theorem bG_y (hi : LNe σ τ k (LG f sp h)) (hs : 2 ≤ sp) (e3 : x3 = ahd f (h - sp) sp.toNat) (h1 : kd = 2) (h2 : 2 ≤ (σ k 0).toInt) (h3 : x3.toInt ≠ 2000000000) : bGp f sp h kd := by
  have e := ahd_e hs e3
  rw [e] at h3
  rw [hi.1] at h2
  exact ⟨h1, h2, h3⟩
theorem ft_0 (A : LNe σ τ k (LF f sp h kd)) (c : (σ k 0).toInt = 0) : (2000000000 : Int32) = FT f sp h kd := by
  have e : L0 (LF f sp h kd) = 0 := by
    show (LF f sp h kd).1.toInt = 0
    rw [← A.1]
    exact c
  unfold FT
  rw [if_pos e]
theorem ft_v {xa vz : Int64} {v : Int32} (hx : XR f) (hs : 2 ≤ sp ∧ sp ≤ 12) (A : LNe σ τ k (LF f sp h kd)) (c : (σ k 0).toInt ≠ 0) (b0 : xa.toInt = BF6 f sp h kd) (hv : ∀ L, LNe σ τ k L → LB L → vz.toInt = VZ L) (hc : v.toInt = max (-(1000000000 : Int32).toInt) (min (1000000000 : Int32).toInt (xa + vz).toInt)) : v = FT f sp h kd := by
  have e : ¬ L0 (LF f sp h kd) = 0 := by
    intro q
    have q : (LF f sp h kd).1.toInt = 0 := q
    rw [← A.1] at q
    exact c q
  have hL : LB (LF f sp h kd) := LF_lb hx (by omega)
  have e2 := hv _ A hL
  have b1 := VZ_bd hL
  have b2 := BF_bd (sp := sp) (h := h) (kd := kd) hx
  have e3 : (xa + vz).toInt = BF6 f sp h kd + VZ (LF f sp h kd) := by
    rw [addL b0 e2 (by omega) (by omega)]
  have e4 : (1000000000 : Int32).toInt = 1000000000 := by decide
  rw [e3, e4] at hc
  unfold FT
  rw [if_neg e]
  apply i32_ext
  rw [hc, cl9b_T]
theorem LF_x (A : LNe σ τ 19 (LX f sp h)) (hb : ¬ bGp f sp h kd) : LNe σ τ 19 (LF f sp h kd) := by
  unfold LF
  rw [if_neg hb]
  exact A
theorem LF_g (A : LNe σ τ 20 (LG f sp h)) (hb : bGp f sp h kd) : LNe σ τ 20 (LF f sp h kd) := by
  unfold LF
  rw [if_pos hb]
  exact A
theorem BF_x {xa : Int64} (hb : ¬ bGp f sp h kd) (e : xa = 0) : xa.toInt = BF6 f sp h kd := by
  unfold BF6
  rw [if_neg hb, e]
  decide
theorem BF_g {xa : Int64} (hb : bGp f sp h kd) (e : xa.toInt = (f (h - 1)).toInt) : xa.toInt = BF6 f sp h kd := by
  unfold BF6
  rw [if_pos hb, e]
/-! what was MISSED, the FULL WEIGHT -/
def GMe (s : SI) (t : SL) (M : Int32 × Int64 × Int64) : Prop := s 18 4 = M.1 ∧ t 18 5 = M.2.1 ∧ t 18 6 = M.2.2
theorem GM_st {q : Nat} {w : Int32} (h4 : σ1 18 4 = 0) (h5 : τ1 18 5 = 0) (h6 : τ1 18 6 = 0) (hw : w.toInt = max lo (σ (80 + q) 8).toInt) : GMe σ1 τ1 (MG (xC σ 26 q) lo (w.toInt - lo).toNat) := by
  rw [MG_0 _ (fun t a b => by unfold xC; rw [if_pos (by omega)]; decide)]
  exact ⟨h4, h5, h6⟩
theorem GM_n (hi : GMe σ τ (MG f lo n)) (ht : t.toInt = lo + (n : Int)) (ex : x = f t.toInt) (hx : x.toInt = 2000000000) : GMe σ τ (MG f lo (n + 1)) := by
  rw [MG_n (by rw [← ht, ← ex]; exact hx)]
  exact hi
theorem GM_s {va : Int32} (hi : GMe σ τ (MG f lo n)) (ht : t.toInt = lo + (n : Int)) (ex : x = f t.toInt) (hx : x.toInt ≠ 2000000000) (ev : va = if 0 ≤ x.toInt then x else -x) (h4 : σ1 18 4 = σ 18 4 + 1) (h5 : τ1 18 5 = τ 18 5 + va.toInt64) (h6 : τ1 18 6 = τ 18 6 + x.toInt64 * x.toInt64) : GMe σ1 τ1 (MG f lo (n + 1)) := by
  have e : f (lo + (n : Int)) = x := by rw [← ht, ex]
  have ev : va = ab6 x := ev
  rw [MG_s (by rw [e]; exact hx), e]
  obtain ⟨a4, a5, a6⟩ := hi
  exact ⟨by rw [h4, a4], by rw [h5, a5, ev], by rw [h6, a6]⟩
theorem GM_k (r : LKf σ σ1 τ τ1 k) (hk : k ≠ 18) {M : Int32 × Int64 × Int64} (h : GMe σ τ M) : GMe σ1 τ1 M := by
  unfold GMe
  rw [(r 18 (fun q => hk q.symm)).1, (r 18 (fun q => hk q.symm)).2]
  exact h
theorem fw_a {ou rc : Int} {fa : Int32} (c : fa.toInt = 2000000000 ∨ ou ≠ 0) : (0 : Int32) = FW6 ou fa f rc h := by
  unfold FW6
  rw [if_pos c]
theorem fw_c {ou rc : Int} {fa : Int32} (c1 : fa.toInt ≠ 2000000000) (c2 : ou = 0) (g : GMe σ τ (MGr6 f rc h)) (c : (σ 18 4).toInt = 0) : (1 : Int32) = FW6 ou fa f rc h := by
  rw [g.1] at c
  unfold FW6
  rw [if_neg (by omega), if_pos c]
theorem fw_d {ou rc : Int} {fa : Int32} {x4 vm : Int64} (hm : MR6 f) (hr : 1 ≤ rc ∧ rc ≤ 12) (c1 : fa.toInt ≠ 2000000000) (c2 : ou = 0) (g : GMe σ τ (MGr6 f rc h)) (c : (σ 18 4).toInt ≠ 0) (e4 : x4 = 1 + τ 18 6) (hv : vm.toInt = max (1 : Int64).toInt ((1000000 : Int64) / x4).toInt) : vm.toInt32 = FW6 ou fa f rc h := by
  rw [g.1] at c
  have b := MGr_bd (h := h) hm (show 0 ≤ rc ∧ rc ≤ 12 by omega)
  have z1 : (1 : Int64).toInt = 1 := by decide
  have z2 : (1000000 : Int64).toInt = 1000000 := by decide
  have e5 : x4.toInt = 1 + (MGr6 f rc h).2.2.toInt := by
    rw [e4, g.2.2]
    exact addL z1 rfl (by omega) (by omega)
  have e6 : ((1000000 : Int64) / x4).toInt = Int.tdiv 1000000 (1 + (MGr6 f rc h).2.2.toInt) := by
    rw [divT (by omega), z2, e5]
  rw [e6, z1] at hv
  have w := FW_bd (ou := ou) (ft := fa) (h := h) hm (show 0 ≤ rc ∧ rc ≤ 12 by omega)
  unfold FW6 at w ⊢
  rw [if_neg (by omega), if_neg c] at w ⊢
  have h9 := tdm (x := 1000000) (y := 1 + (MGr6 f rc h).2.2.toInt) (by omega)
  have t6 := h9.2.2.2.1 (by omega)
  have q0 : 0 ≤ Int.tdiv 1000000 (1 + (MGr6 f rc h).2.2.toInt) := Int.tdiv_nonneg (by omega) (by omega)
  have q1 : Int.tdiv 1000000 (1 + (MGr6 f rc h).2.2.toInt) * 1 ≤ Int.tdiv 1000000 (1 + (MGr6 f rc h).2.2.toInt) * (1 + (MGr6 f rc h).2.2.toInt) := Int.mul_le_mul_of_nonneg_left (by omega) q0
  apply i32_ext
  rw [l2iI hv (by omega) (by omega), ofI (by omega) (by omega)]
theorem fw_e {rc : Int} {x4 : Int64} (hm : MR6 f) (hr : 1 ≤ rc ∧ rc ≤ 12) (g : GMe σ τ (MGr6 f rc h)) (e4 : x4 = 1 + τ 18 6) (c : x4.toInt ≤ 0) : False := by
  have b := MGr_bd (h := h) hm (show 0 ≤ rc ∧ rc ≤ 12 by omega)
  have z1 : (1 : Int64).toInt = 1 := by decide
  have e5 : x4.toInt = 1 + (MGr6 f rc h).2.2.toInt := by
    rw [e4, g.2.2]
    exact addL z1 rfl (by omega) (by omega)
  omega
theorem um_y {rc : Int} (g : GMe σ τ (MGr6 f rc h)) (c : 0 < (σ 18 4).toInt) : τ 18 5 / (σ 18 4).toInt64 = UM6 f rc h := by
  unfold UM6
  rw [g.1] at c
  rw [g.1, g.2.1, if_neg (by omega)]
theorem um_n {rc : Int} (hm : MR6 f) (hr : 1 ≤ rc ∧ rc ≤ 12) (g : GMe σ τ (MGr6 f rc h)) (c : (σ 18 4).toInt ≤ 0) : (0 : Int64) = UM6 f rc h := by
  have b := MGr_bd (h := h) hm (show 0 ≤ rc ∧ rc ≤ 12 by omega)
  rw [g.1] at c
  unfold UM6
  rw [if_pos (by omega)]
/-! drifts -/
theorem abv {x v : Int32} (h : -30000 ≤ x.toInt ∧ x.toInt ≤ 30000) (e : v = if 0 ≤ x.toInt then x else -x) : v.toInt = (x.toInt.natAbs : Int) := by
  have e : v = ab6 x := e
  rw [e]
  exact ab6_T h
theorem dr_go {t : Int} {x4 x5 v4 v5 : Int32} (hm : MR6 f) (e4 : x4 = f (t - 1)) (e5 : x5 = f t) (n4 : x4.toInt ≠ 2000000000) (n5 : x5.toInt ≠ 2000000000) (sg : (0 < x4.toInt ∧ 0 < x5.toInt) ∨ (x4.toInt < 0 ∧ x5.toInt < 0)) (a4 : v4 = if 0 ≤ x4.toInt then x4 else -x4) (a5 : v5 = if 0 ≤ x5.toInt then x5 else -x5) (lt : v4.toInt < v5.toInt) : D16 (f (t - 1)) (f t) := by
  have b4 := (hm (t - 1)).resolve_left (by rw [← e4]; exact n4)
  have b5 := (hm t).resolve_left (by rw [← e5]; exact n5)
  rw [← e4] at b4 ⊢
  rw [← e5] at b5 ⊢
  have c4 := abv b4 a4
  have c5 := abv b5 a5
  exact ⟨n4, n5, sg, by omega⟩
theorem dr_n1 {t : Int} {x4 : Int32} (e4 : x4 = f (t - 1)) (n : x4.toInt = 2000000000) : ¬ D16 (f (t - 1)) (f t) := by
  rw [← e4]
  exact fun d => d.1 n
theorem dr_n2 {t : Int} {x5 : Int32} (e5 : x5 = f t) (n : x5.toInt = 2000000000) : ¬ D16 (f (t - 1)) (f t) := by
  rw [← e5]
  exact fun d => d.2.1 n
theorem dr_n3 {t : Int} {x4 x5 : Int32} (e4 : x4 = f (t - 1)) (e5 : x5 = f t) (sg : ¬ ((0 < x4.toInt ∧ 0 < x5.toInt) ∨ (x4.toInt < 0 ∧ x5.toInt < 0))) : ¬ D16 (f (t - 1)) (f t) := by
  rw [← e4, ← e5]
  exact fun d => sg d.2.2.1
theorem dr_n4 {t : Int} {x4 x5 v4 v5 : Int32} (hm : MR6 f) (e4 : x4 = f (t - 1)) (e5 : x5 = f t) (n4 : x4.toInt ≠ 2000000000) (n5 : x5.toInt ≠ 2000000000) (a4 : v4 = if 0 ≤ x4.toInt then x4 else -x4) (a5 : v5 = if 0 ≤ x5.toInt then x5 else -x5) (lt : v5.toInt ≤ v4.toInt) : ¬ D16 (f (t - 1)) (f t) := by
  have b4 := (hm (t - 1)).resolve_left (by rw [← e4]; exact n4)
  have b5 := (hm t).resolve_left (by rw [← e5]; exact n5)
  rw [← e4] at b4 ⊢
  rw [← e5] at b5 ⊢
  have c4 := abv b4 a4
  have c5 := abv b5 a5
  exact fun d => by have := d.2.2.2; omega
theorem dr_no {t : Int} (hn : ¬ D16 (f (t - 1)) (f t)) (h1 : h - 2 ≤ t) (h2 : t ≤ h) : ¬ DR6 f h (f h) := by
  rintro ⟨d1, d2, d3⟩
  have c : t = h - 2 ∨ t = h - 1 ∨ t = h := by omega
  rcases c with c | c | c
  · rw [c, show h - 2 - 1 = h - 3 by omega] at hn
    exact hn d1
  · rw [c, show h - 1 - 1 = h - 2 by omega] at hn
    exact hn d2
  · rw [c] at hn
    exact hn d3
theorem dr_yes (H : ∀ u : Int, h - 2 ≤ u → u < h + 1 → D16 (f (u - 1)) (f u)) : DR6 f h (f h) := by
  have d1 := H (h - 2) (by omega) (by omega)
  have d2 := H (h - 1) (by omega) (by omega)
  rw [show h - 2 - 1 = h - 3 by omega] at d1
  rw [show h - 1 - 1 = h - 2 by omega] at d2
  exact ⟨d1, d2, H h (by omega) (by omega)⟩
theorem dr_sg {t t' : Int} (H : ∀ u : Int, h - 2 ≤ u → u < t → D16 (f (u - 1)) (f u)) (d : D16 (f (t - 1)) (f t)) (e : t' = t + 1) : ∀ u : Int, h - 2 ≤ u → u < t' → D16 (f (u - 1)) (f u) := fun u a b => by
  by_cases g : u < t
  · exact H u a g
  · rw [show u = t by omega]
    exact d
end PASTC
section LINEC
variable {σ : SI} {τ : SL} {k : Nat} {L : L5}
theorem vz_y {x v : Int64} (hL : LNe σ τ k L) (hB : LB L) (ex : x = (σ k 0).toInt64 * τ k 3 - τ k 1 * τ k 1) (c : 0 < x.toInt) (f : 0 < x.toInt → -4000000000000000000 < (τ k 2 * τ k 3 - τ k 1 * τ k 4).toInt → v.toInt = (τ k 2 * τ k 3 - τ k 1 * τ k 4).toInt / x.toInt) : v.toInt = VZ L := by
  obtain ⟨a0, a1, a2, a3, a4⟩ := hL
  rw [a0, a1, a3] at ex
  rw [a1, a2, a3, a4] at f
  have e := BEl hB
  rw [← ex] at e
  have e2 := VNl hB
  have b := VN_bd hB
  rw [e2, e] at f
  rw [e] at c
  unfold VZ
  rw [if_pos c]
  exact f c (by omega)
theorem vz_n {x : Int64} (hL : LNe σ τ k L) (hB : LB L) (ex : x = (σ k 0).toInt64 * τ k 3 - τ k 1 * τ k 1) (c : x.toInt ≤ 0) : (τ k 2).toInt = VZ L := by
  obtain ⟨a0, a1, a2, a3, a4⟩ := hL
  rw [a0, a1, a3] at ex
  have e := BEl hB
  rw [← ex] at e
  unfold VZ
  rw [if_neg (by omega), a2]
def DVi (σ : SI) (τ : SL) (k : Nat) (a b : Int64) (n : Nat) : Prop := ∀ L, LNe σ τ k L → LB L → GCi (Int.gcd (ABr L) (BEr L) : Int) a b n
theorem dvi_st {x v : Int64} (ex : x = (σ k 0).toInt64 * τ k 3 - τ k 1 * τ k 1) (c : 0 < x.toInt) (f : v = if 0 ≤ ((σ k 0).toInt64 * τ k 4 - τ k 1 * τ k 2).toInt then ((σ k 0).toInt64 * τ k 4 - τ k 1 * τ k 2) else -((σ k 0).toInt64 * τ k 4 - τ k 1 * τ k 2)) : DVi σ τ k x v 0 := by
  intro L hL hB
  obtain ⟨a0, a1, a2, a3, a4⟩ := hL
  rw [a0, a1, a3] at ex
  rw [a0, a1, a2, a4] at f
  have e := BEl hB
  rw [← ex] at e
  have e2 := ABl hB
  have b := AB_bd hB
  have hb := hB.2.2.2.2.2.1
  refine GCi.st e ?_ (by omega) (by omega)
  rw [f]
  by_cases g : 0 ≤ (L.1.toInt64 * L.2.2.2.2 - L.2.1 * L.2.2.1).toInt
  · rw [if_pos g, e2]
    omega
  · rw [if_neg g, negL e2 (by omega)]
    omega
theorem dv_y {x : Int64} {a b : Int64} {n : Nat} (hL : LNe σ τ k L) (hB : LB L) (ex : x = (σ k 0).toInt64 * τ k 3 - τ k 1 * τ k 1) (c : 0 < x.toInt) (hi : DVi σ τ k a b n) (hb : b.toInt = 0 ∨ n = 200) : a.toInt = if 0 < BEr L then (Int.gcd (ABr L) (BEr L) : Int) else 0 := by
  have h := (hi L hL hB).nd hb
  obtain ⟨a0, a1, a2, a3, a4⟩ := hL
  rw [a0, a1, a3] at ex
  have e := BEl hB
  rw [← ex] at e
  rw [if_pos (by omega)]
  exact h
theorem dv_n {x : Int64} (hL : LNe σ τ k L) (hB : LB L) (ex : x = (σ k 0).toInt64 * τ k 3 - τ k 1 * τ k 1) (c : x.toInt ≤ 0) : (0 : Int64).toInt = if 0 < BEr L then (Int.gcd (ABr L) (BEr L) : Int) else 0 := by
  obtain ⟨a0, a1, a2, a3, a4⟩ := hL
  rw [a0, a1, a3] at ex
  have e := BEl hB
  rw [← ex] at e
  rw [if_neg (by omega)]
  decide
theorem sl_g {g : Int64} (hB : LB L) (f : g.toInt = if 0 < BEr L then (Int.gcd (ABr L) (BEr L) : Int) else 0) : (0 < g.toInt ∧ AB6 L = ABr L ∧ BE6 L = BEr L ∧ g.toInt = (Int.gcd (AB6 L) (BE6 L) : Int)) ∨ (g.toInt ≤ 0 ∧ AB6 L = 0 ∧ BE6 L = 1) := by
  have h1 := hB.2.2.2.2.2.2.1
  have h2 := hB.2.2.2.2.2.2.2.1
  unfold AB6 BE6
  by_cases c : 2 ≤ L0 L
  · have p := h1 c
    rw [if_pos (by omega)] at f
    rw [if_pos c, if_pos c]
    have q : 0 < Int.gcd (ABr L) (BEr L) := Int.gcd_pos_of_ne_zero_right _ (by omega)
    exact Or.inl ⟨by omega, rfl, rfl, f⟩
  · have p := h2 (by omega)
    rw [if_neg (by omega)] at f
    rw [if_neg c, if_neg c]
    exact Or.inr ⟨by omega, rfl, rfl⟩
theorem sl_ay {g : Int64} (hL : LNe σ τ k L) (hB : LB L) (f : ∀ L, LNe σ τ k L → LB L → g.toInt = if 0 < BEr L then (Int.gcd (ABr L) (BEr L) : Int) else 0) (c : 0 < g.toInt) : (((σ k 0).toInt64 * τ k 4 - τ k 1 * τ k 2) / g).toInt = (AB6 L).tdiv (Int.gcd (AB6 L) (BE6 L)) := by
  rcases sl_g hB (f L hL hB) with ⟨h1, h2, h3, h4⟩ | ⟨h1, -⟩
  · obtain ⟨a0, a1, a2, a3, a4⟩ := hL
    rw [a0, a1, a2, a4, divT c, ABl hB, ← h2, h4]
  · omega
theorem sl_an {g : Int64} (hL : LNe σ τ k L) (hB : LB L) (f : ∀ L, LNe σ τ k L → LB L → g.toInt = if 0 < BEr L then (Int.gcd (ABr L) (BEr L) : Int) else 0) (c : g.toInt ≤ 0) : (0 : Int64).toInt = (AB6 L).tdiv (Int.gcd (AB6 L) (BE6 L)) := by
  rcases sl_g hB (f L hL hB) with ⟨h1, -⟩ | ⟨h1, h2, h3⟩
  · omega
  · rw [h2, h3]
    decide
theorem sl_by {g : Int64} (hL : LNe σ τ k L) (hB : LB L) (f : ∀ L, LNe σ τ k L → LB L → g.toInt = if 0 < BEr L then (Int.gcd (ABr L) (BEr L) : Int) else 0) (c : 0 < g.toInt) : (((σ k 0).toInt64 * τ k 3 - τ k 1 * τ k 1) / g).toInt = (BE6 L).tdiv (Int.gcd (AB6 L) (BE6 L)) := by
  rcases sl_g hB (f L hL hB) with ⟨h1, h2, h3, h4⟩ | ⟨h1, -⟩
  · obtain ⟨a0, a1, a2, a3, a4⟩ := hL
    rw [a0, a1, a3, divT c, BEl hB, ← h3, h4]
  · omega
theorem sl_bn {g : Int64} (hL : LNe σ τ k L) (hB : LB L) (f : ∀ L, LNe σ τ k L → LB L → g.toInt = if 0 < BEr L then (Int.gcd (ABr L) (BEr L) : Int) else 0) (c : g.toInt ≤ 0) : (1 : Int64).toInt = (BE6 L).tdiv (Int.gcd (AB6 L) (BE6 L)) := by
  rcases sl_g hB (f L hL hB) with ⟨h1, -⟩ | ⟨h1, h2, h3⟩
  · omega
  · rw [h2, h3]
    decide
end LINEC
abbrev po5_J9_floorDiv_f86c9 (σ : SI) (τ : SL) (xa : Int64) (ya : Int64) : Int64 → SI × SL → Prop := fun v u => u = (σ, τ) ∧ (((0 < ya.toInt → -4000000000000000000 < xa.toInt → v.toInt = xa.toInt / ya.toInt)))
set_option maxRecDepth 100000 in
set_option maxHeartbeats 4000000 in
theorem c5_J9_floorDiv_f86c9 (l : Launch) {G : Gx} {A : Nat → Prop} (hG : GOk G A) (σ : SI) (τ : SL) (xa : Int64) (ya : Int64) (hnz : ya.toInt ≠ 0) : ML l G A 0 yJ9_floorDiv_f86c9 cJ9_floorDiv_f86c9 6 (some .long) [.long xa, .long ya] (σ, τ) (po5_J9_floorDiv_f86c9 σ τ xa ya) := by
  refine met_of (own := RJ9) (plainJ9 rfl (by decide)) rfl [(0, .long xa), (2, .long ya)] rfl (Nat.le_of_ble_eq_true rfl) ?_
  intro p e s m args below meth c ls hC hK hR hl
  have hS : va_S A s.heap s.heap [] := va_S.rf
  refine lv_lload_n hC.x hC.b dJ9_floorDiv_f86c9_0 rfl (lv_at hl 0 rfl) ?_
  refine lv_lload_n hC.x hC.b dJ9_floorDiv_f86c9_1 rfl (lv_at hl 1 rfl) ?_
  refine lv_ldiv hC.x hC.b dJ9_floorDiv_f86c9_2 (ne0L rfl (by omega)) ?_
  refine lv_lstore (lv' := [(4, .long (xa / ya)), (0, .long xa), (2, .long ya)]) hC.x hC.b dJ9_floorDiv_f86c9_3 hl (by decide) rfl (fun ls hl => ?_)
  refine lv_lload_n hC.x hC.b dJ9_floorDiv_f86c9_5 rfl (lv_at hl 1 rfl) ?_
  refine lv_lload_n hC.x hC.b dJ9_floorDiv_f86c9_6 rfl (lv_at hl 2 rfl) ?_
  refine lv_lxor hC.x hC.b dJ9_floorDiv_f86c9_7 ?_
  refine lv_lconst (v := 0) hC.x hC.b dJ9_floorDiv_f86c9_8 (by decide) ?_
  refine bl_ge (tgt := 27) (a := (xa ^^^ ya).toInt) (b := 0) hC.x hC.b rfl rfl dJ9_floorDiv_f86c9_9 dJ9_floorDiv_f86c9_10 (by decide) (fun c_1 => ?_) (fun c_1 => ?_)
  · skip
    refine lv_lload hC.x hC.b dJ9_floorDiv_f86c9_27 (lv_at hl 0 rfl) ?_
    exact retl hC hK hR hS ⟨rfl, (by intro hy hx; first | exact fdv_a hy (by assumption) | exact fdv_b hy (by assumption) | exact fdv_c hy hx (by assumption) (by assumption))⟩ dJ9_floorDiv_f86c9_29
  · skip
    refine lv_lload hC.x hC.b dJ9_floorDiv_f86c9_13 (lv_at hl 0 rfl) ?_
    refine lv_lload_n hC.x hC.b dJ9_floorDiv_f86c9_15 rfl (lv_at hl 2 rfl) ?_
    refine lv_lmul hC.x hC.b dJ9_floorDiv_f86c9_16 ?_
    refine lv_lload_n hC.x hC.b dJ9_floorDiv_f86c9_17 rfl (lv_at hl 1 rfl) ?_
    refine bl_eq (tgt := 27) (a := ((xa / ya) * ya).toInt) (b := xa.toInt) hC.x hC.b rfl rfl dJ9_floorDiv_f86c9_18 dJ9_floorDiv_f86c9_19 (by decide) (fun c_2 => ?_) (fun c_2 => ?_)
    · skip
      refine lv_lload hC.x hC.b dJ9_floorDiv_f86c9_27 (lv_at hl 0 rfl) ?_
      exact retl hC hK hR hS ⟨rfl, (by intro hy hx; first | exact fdv_a hy (by assumption) | exact fdv_b hy (by assumption) | exact fdv_c hy hx (by assumption) (by assumption))⟩ dJ9_floorDiv_f86c9_29
    · skip
      refine lv_lload hC.x hC.b dJ9_floorDiv_f86c9_22 (lv_at hl 0 rfl) ?_
      refine lv_lconst (v := 1) hC.x hC.b dJ9_floorDiv_f86c9_24 (by decide) ?_
      refine lv_lsub hC.x hC.b dJ9_floorDiv_f86c9_25 ?_
      exact retl hC hK hR hS ⟨rfl, (by intro hy hx; first | exact fdv_a hy (by assumption) | exact fdv_b hy (by assumption) | exact fdv_c hy hx (by assumption) (by assumption))⟩ dJ9_floorDiv_f86c9_26

abbrev po5_J9_floorMod_f86c9 (σ : SI) (τ : SL) (xa : Int64) (ya : Int64) : Int64 → SI × SL → Prop := fun v u => u = (σ, τ) ∧ (((0 < ya.toInt → -4000000000000000000 < xa.toInt → v.toInt = xa.toInt % ya.toInt)))
set_option maxRecDepth 100000 in
set_option maxHeartbeats 4000000 in
theorem c5_J9_floorMod_f86c9 (l : Launch) {G : Gx} {A : Nat → Prop} (hG : GOk G A) (σ : SI) (τ : SL) (xa : Int64) (ya : Int64) (hnz : ya.toInt ≠ 0) : ML l G A 0 yJ9_floorMod_f86c9 cJ9_floorMod_f86c9 6 (some .long) [.long xa, .long ya] (σ, τ) (po5_J9_floorMod_f86c9 σ τ xa ya) := by
  refine met_of (own := RJ9) (plainJ9 rfl (by decide)) rfl [(0, .long xa), (2, .long ya)] rfl (Nat.le_of_ble_eq_true rfl) ?_
  intro p e s m args below meth c ls hC hK hR hl
  have hS : va_S A s.heap s.heap [] := va_S.rf
  refine lv_lload_n hC.x hC.b dJ9_floorMod_f86c9_0 rfl (lv_at hl 0 rfl) ?_
  refine lv_lload_n hC.x hC.b dJ9_floorMod_f86c9_1 rfl (lv_at hl 1 rfl) ?_
  refine lv_lrem hC.x hC.b dJ9_floorMod_f86c9_2 (ne0L rfl (by omega)) ?_
  refine lv_lstore (lv' := [(4, .long (xa - xa / ya * ya)), (0, .long xa), (2, .long ya)]) hC.x hC.b dJ9_floorMod_f86c9_3 hl (by decide) rfl (fun ls hl => ?_)
  refine lv_lload_n hC.x hC.b dJ9_floorMod_f86c9_5 rfl (lv_at hl 1 rfl) ?_
  refine lv_lload_n hC.x hC.b dJ9_floorMod_f86c9_6 rfl (lv_at hl 2 rfl) ?_
  refine lv_lxor hC.x hC.b dJ9_floorMod_f86c9_7 ?_
  refine lv_lconst (v := 0) hC.x hC.b dJ9_floorMod_f86c9_8 (by decide) ?_
  refine bl_ge (tgt := 25) (a := (xa ^^^ ya).toInt) (b := 0) hC.x hC.b rfl rfl dJ9_floorMod_f86c9_9 dJ9_floorMod_f86c9_10 (by decide) (fun c_1 => ?_) (fun c_1 => ?_)
  · skip
    refine lv_lload hC.x hC.b dJ9_floorMod_f86c9_25 (lv_at hl 0 rfl) ?_
    exact retl hC hK hR hS ⟨rfl, (by intro hy hx; first | exact fmd_a hy (by assumption) | exact fmd_b hy (by assumption) | exact fmd_c hy hx (by assumption) (by assumption))⟩ dJ9_floorMod_f86c9_27
  · skip
    refine lv_lload hC.x hC.b dJ9_floorMod_f86c9_13 (lv_at hl 0 rfl) ?_
    refine lv_lconst (v := 0) hC.x hC.b dJ9_floorMod_f86c9_15 (by decide) ?_
    refine bl_eq (tgt := 25) (a := (xa - xa / ya * ya).toInt) (b := 0) hC.x hC.b rfl rfl dJ9_floorMod_f86c9_16 dJ9_floorMod_f86c9_17 (by decide) (fun c_2 => ?_) (fun c_2 => ?_)
    · skip
      refine lv_lload hC.x hC.b dJ9_floorMod_f86c9_25 (lv_at hl 0 rfl) ?_
      exact retl hC hK hR hS ⟨rfl, (by intro hy hx; first | exact fmd_a hy (by assumption) | exact fmd_b hy (by assumption) | exact fmd_c hy hx (by assumption) (by assumption))⟩ dJ9_floorMod_f86c9_27
    · skip
      refine lv_lload hC.x hC.b dJ9_floorMod_f86c9_20 (lv_at hl 0 rfl) ?_
      refine lv_lload_n hC.x hC.b dJ9_floorMod_f86c9_22 rfl (lv_at hl 2 rfl) ?_
      refine lv_ladd hC.x hC.b dJ9_floorMod_f86c9_23 ?_
      exact retl hC hK hR hS ⟨rfl, (by intro hy hx; first | exact fmd_a hy (by assumption) | exact fmd_b hy (by assumption) | exact fmd_c hy hx (by assumption) (by assumption))⟩ dJ9_floorMod_f86c9_24

abbrev po5_X3_clear (σ : SI) (τ : SL) (k : Nat) : SI × SL → Prop := fun u => ((Fr (fun k => 18 ≤ k ∧ k ≤ 20) σ u.1) ∧ (LNe u.1 u.2 k (0, 0, 0, 0, 0)) ∧ (LKf σ u.1 τ u.2 k))
set_option maxRecDepth 100000 in
set_option maxHeartbeats 4000000 in
theorem c5_X3_clear (l : Launch) {G : Gx} {A : Nat → Prop} (hG : GOk G A) (σ : SI) (τ : SL) (k : Nat) (hk : k = 19 ∨ k = 20) : MV l G A 0 yX3_clear cX3_clear 1 none [.ref (G.2.1 k)] (σ, τ) (po5_X3_clear σ τ k) := by
  refine met_of (own := RX3) (by decide +kernel) rfl [(0, .ref (G.2.1 k))] rfl (Nat.le_of_ble_eq_true rfl) ?_
  intro p e s m args below meth c ls hC hK hR hl
  have hS : va_S A s.heap s.heap [] := va_S.rf
  refine lv_aload_n hC.x hC.b dX3_clear_0 rfl (lv_at hl 0 rfl) ?_
  refine lv_iconst (v := 0) hC.x hC.b dX3_clear_1 (by decide) ?_
  refine rputi hC hK hG hR hS (ct_line hk G _ _) rfl uin_X3 tyX3 tyX3_ok nmX3 0 (by decide) TF_X3_7 rfl (Or.inl rfl) (Nat.le_of_ble_eq_true rfl) rfl (ct_line hk G _ _) dX3_clear_2 (fun s_2 es_1 H locs hR hS => ?_)
  refine lv_aload_n hC.x hC.b dX3_clear_5 rfl (lv_at hl 0 rfl) ?_
  refine lv_lconst (v := 0) hC.x hC.b dX3_clear_6 (by decide) ?_
  refine rputl hC hK hG hR hS (ct_line hk G _ _) rfl uin_X3 tyX3 tyX3_ok nmX3 1 (by decide) TF_X3_13 rfl rfl (Nat.le_of_ble_eq_true rfl) rfl (ct_line hk G _ _) dX3_clear_7 (fun t_4 es_3 H locs hR hS => ?_)
  refine lv_aload_n hC.x hC.b dX3_clear_10 rfl (lv_at hl 0 rfl) ?_
  refine lv_lconst (v := 0) hC.x hC.b dX3_clear_11 (by decide) ?_
  refine rputl hC hK hG hR hS (ct_line hk G _ _) rfl uin_X3 tyX3 tyX3_ok nmX3 2 (by decide) TF_X3_17 rfl rfl (Nat.le_of_ble_eq_true rfl) rfl (ct_line hk G _ _) dX3_clear_12 (fun t_6 es_5 H locs hR hS => ?_)
  refine lv_aload_n hC.x hC.b dX3_clear_15 rfl (lv_at hl 0 rfl) ?_
  refine lv_lconst (v := 0) hC.x hC.b dX3_clear_16 (by decide) ?_
  refine rputl hC hK hG hR hS (ct_line hk G _ _) rfl uin_X3 tyX3 tyX3_ok nmX3 3 (by decide) TF_X3_20 rfl rfl (Nat.le_of_ble_eq_true rfl) rfl (ct_line hk G _ _) dX3_clear_17 (fun t_8 es_7 H locs hR hS => ?_)
  refine lv_aload_n hC.x hC.b dX3_clear_20 rfl (lv_at hl 0 rfl) ?_
  refine lv_lconst (v := 0) hC.x hC.b dX3_clear_21 (by decide) ?_
  refine rputl hC hK hG hR hS (ct_line hk G _ _) rfl uin_X3 tyX3 tyX3_ok nmX3 4 (by decide) TF_X3_23 rfl rfl (Nat.le_of_ble_eq_true rfl) rfl (ct_line hk G _ _) dX3_clear_22 (fun t_10 es_9 H locs hR hS => ?_)
  exact retv hC hK hR hS (⟨by exact (by rw [es_1]; exact Fr.up (Fr.rf) (by first | omega | (dsimp only; omega))), by subst es_9; subst es_7; subst es_5; subst es_3; subst es_1; ((try dsimp only); exact ⟨by simp [up2], by simp [up2], by simp [up2], by simp [up2], by simp [up2]⟩), by subst es_9; subst es_7; subst es_5; subst es_3; subst es_1; ((try dsimp only); intro o ho; exact ⟨by funext j; simp [up2, ho], by funext j; simp [up2, ho]⟩)⟩) dX3_clear_25

abbrev po5_X3_add (σ : SI) (τ : SL) (k : Nat) (ta : Int64) (xa : Int64) : SI × SL → Prop := fun u => ((Fr (fun k => 18 ≤ k ∧ k ≤ 20) σ u.1) ∧ (LAd σ τ u.1 u.2 k ta xa) ∧ (LKf σ u.1 τ u.2 k))
set_option maxRecDepth 100000 in
set_option maxHeartbeats 4000000 in
theorem c5_X3_add (l : Launch) {G : Gx} {A : Nat → Prop} (hG : GOk G A) (σ : SI) (τ : SL) (k : Nat) (hk : k = 19 ∨ k = 20) (ta : Int64) (xa : Int64) : MV l G A 0 yX3_add cX3_add 5 none [.ref (G.2.1 k), .long ta, .long xa] (σ, τ) (po5_X3_add σ τ k ta xa) := by
  refine met_of (own := RX3) (by decide +kernel) rfl [(0, .ref (G.2.1 k)), (1, .long ta), (3, .long xa)] rfl (Nat.le_of_ble_eq_true rfl) ?_
  intro p e s m args below meth c ls hC hK hR hl
  have hS : va_S A s.heap s.heap [] := va_S.rf
  refine lv_aload_n hC.x hC.b dX3_add_0 rfl (lv_at hl 0 rfl) ?_
  refine lv_dup hC.x hC.b dX3_add_1 rfl ?_
  refine rget hC hK hR (ct_line hk G _ _) rfl uin_X3 0 (by decide) TF_X3_7 rfl dX3_add_2 ?_
  refine lv_iconst (v := 1) hC.x hC.b dX3_add_5 (by decide) ?_
  refine lv_iadd hC.x hC.b dX3_add_6 ?_
  refine rputi hC hK hG hR hS (ct_line hk G _ _) rfl uin_X3 tyX3 tyX3_ok nmX3 0 (by decide) TF_X3_7 rfl (Or.inl rfl) (Nat.le_of_ble_eq_true rfl) rfl (ct_line hk G _ _) dX3_add_7 (fun s_2 es_1 H locs hR hS => ?_)
  refine lv_aload_n hC.x hC.b dX3_add_10 rfl (lv_at hl 0 rfl) ?_
  refine lv_dup hC.x hC.b dX3_add_11 rfl ?_
  refine rget hC hK hR (ct_line hk G _ _) rfl uin_X3 1 (by decide) TF_X3_13 rfl dX3_add_12 ?_
  refine lv_lload_n hC.x hC.b dX3_add_15 rfl (lv_at hl 1 rfl) ?_
  refine lv_ladd hC.x hC.b dX3_add_16 ?_
  refine rputl hC hK hG hR hS (ct_line hk G _ _) rfl uin_X3 tyX3 tyX3_ok nmX3 1 (by decide) TF_X3_13 rfl rfl (Nat.le_of_ble_eq_true rfl) rfl (ct_line hk G _ _) dX3_add_17 (fun t_4 es_3 H locs hR hS => ?_)
  refine lv_aload_n hC.x hC.b dX3_add_20 rfl (lv_at hl 0 rfl) ?_
  refine lv_dup hC.x hC.b dX3_add_21 rfl ?_
  refine rget hC hK hR (ct_line hk G _ _) rfl uin_X3 2 (by decide) TF_X3_17 rfl dX3_add_22 ?_
  refine lv_lload_n hC.x hC.b dX3_add_25 rfl (lv_at hl 2 rfl) ?_
  refine lv_ladd hC.x hC.b dX3_add_26 ?_
  refine rputl hC hK hG hR hS (ct_line hk G _ _) rfl uin_X3 tyX3 tyX3_ok nmX3 2 (by decide) TF_X3_17 rfl rfl (Nat.le_of_ble_eq_true rfl) rfl (ct_line hk G _ _) dX3_add_27 (fun t_6 es_5 H locs hR hS => ?_)
  refine lv_aload_n hC.x hC.b dX3_add_30 rfl (lv_at hl 0 rfl) ?_
  refine lv_dup hC.x hC.b dX3_add_31 rfl ?_
  refine rget hC hK hR (ct_line hk G _ _) rfl uin_X3 3 (by decide) TF_X3_20 rfl dX3_add_32 ?_
  refine lv_lload_n hC.x hC.b dX3_add_35 rfl (lv_at hl 1 rfl) ?_
  refine lv_lload_n hC.x hC.b dX3_add_36 rfl (lv_at hl 1 rfl) ?_
  refine lv_lmul hC.x hC.b dX3_add_37 ?_
  refine lv_ladd hC.x hC.b dX3_add_38 ?_
  refine rputl hC hK hG hR hS (ct_line hk G _ _) rfl uin_X3 tyX3 tyX3_ok nmX3 3 (by decide) TF_X3_20 rfl rfl (Nat.le_of_ble_eq_true rfl) rfl (ct_line hk G _ _) dX3_add_39 (fun t_8 es_7 H locs hR hS => ?_)
  refine lv_aload_n hC.x hC.b dX3_add_42 rfl (lv_at hl 0 rfl) ?_
  refine lv_dup hC.x hC.b dX3_add_43 rfl ?_
  refine rget hC hK hR (ct_line hk G _ _) rfl uin_X3 4 (by decide) TF_X3_23 rfl dX3_add_44 ?_
  refine lv_lload_n hC.x hC.b dX3_add_47 rfl (lv_at hl 1 rfl) ?_
  refine lv_lload_n hC.x hC.b dX3_add_48 rfl (lv_at hl 2 rfl) ?_
  refine lv_lmul hC.x hC.b dX3_add_49 ?_
  refine lv_ladd hC.x hC.b dX3_add_50 ?_
  refine rputl hC hK hG hR hS (ct_line hk G _ _) rfl uin_X3 tyX3 tyX3_ok nmX3 4 (by decide) TF_X3_23 rfl rfl (Nat.le_of_ble_eq_true rfl) rfl (ct_line hk G _ _) dX3_add_51 (fun t_10 es_9 H locs hR hS => ?_)
  exact retv hC hK hR hS (⟨by exact (by rw [es_1]; exact Fr.up (Fr.rf) (by first | omega | (dsimp only; omega))), by subst es_9; subst es_7; subst es_5; subst es_3; subst es_1; ((try dsimp only); exact ⟨by simp [up2], by simp [up2], by simp [up2], by simp [up2], by simp [up2]⟩), by subst es_9; subst es_7; subst es_5; subst es_3; subst es_1; ((try dsimp only); intro o ho; exact ⟨by funext j; simp [up2, ho], by funext j; simp [up2, ho]⟩)⟩) dX3_add_54

abbrev po5_X3_valueAtZero (σ : SI) (τ : SL) (k : Nat) : Int64 → SI × SL → Prop := fun v u => u = (σ, τ) ∧ (((∀ L, LNe σ τ k L → LB L → v.toInt = VZ L)))
set_option maxRecDepth 100000 in
set_option maxHeartbeats 4000000 in
theorem c5_X3_valueAtZero (l : Launch) {G : Gx} {A : Nat → Prop} (hG : GOk G A) (σ : SI) (τ : SL) (k : Nat) (hk : k = 19 ∨ k = 20) : ML l G A 1 yX3_valueAtZero cX3_valueAtZero 3 (some .long) [.ref (G.2.1 k)] (σ, τ) (po5_X3_valueAtZero σ τ k) := by
  refine met_of (own := RX3) (by decide +kernel) rfl [(0, .ref (G.2.1 k))] rfl (Nat.le_of_ble_eq_true rfl) ?_
  intro p e s m args below meth c ls hC hK hR hl
  have hS : va_S A s.heap s.heap [] := va_S.rf
  refine lv_aload_n hC.x hC.b dX3_valueAtZero_0 rfl (lv_at hl 0 rfl) ?_
  refine golp (runV (As := []) (rest := []) hC hK hR hl.1 (c_X3_rawBelow l hG σ τ k hk ) (call_b hC.ts TC_X3_rawBelow TN_X3 TM_X3_26 hd_X3_rawBelow ⟨Nat.le_of_ble_eq_true rfl, Nat.le_of_ble_eq_true rfl⟩) TI_X3_rawBelow TS_X3_rawBelow (ct_line hk G _ _) rfl rfl rfl (Nat.le_of_ble_eq_true rfl) dX3_valueAtZero_1 ⟨Nat.le_of_ble_eq_true rfl, Nat.le_of_ble_eq_true rfl⟩) hS (fun v_1 H locs w_2 hR hS => ?_)
  subst w_2
  refine lv_topl (fun x_3 ex_4 => ?_)
  refine lv_lstore_n (lv' := [(1, .long x_3), (0, .ref (G.2.1 k))]) hC.x hC.b dX3_valueAtZero_4 rfl hl (by decide) rfl (fun ls hl => ?_)
  refine lv_lload_n hC.x hC.b dX3_valueAtZero_5 rfl (lv_at hl 0 rfl) ?_
  refine lv_lconst (v := 0) hC.x hC.b dX3_valueAtZero_6 (by decide) ?_
  refine bl_le (tgt := 37) (a := x_3.toInt) (b := 0) hC.x hC.b rfl rfl dX3_valueAtZero_7 dX3_valueAtZero_8 (by decide) (fun c_5 => ?_) (fun c_5 => ?_)
  · skip
    refine lv_aload_n hC.x hC.b dX3_valueAtZero_37 rfl (lv_at hl 1 rfl) ?_
    refine rget hC hK hR (ct_line hk G _ _) rfl uin_X3 2 (by decide) TF_X3_17 rfl dX3_valueAtZero_38 ?_
    exact retl hC hK hR hS ⟨rfl, (by intro L hL hB; first | exact vz_y hL hB (by assumption) (by assumption) (by assumption) | exact vz_n hL hB (by assumption) (by assumption))⟩ dX3_valueAtZero_41
  · skip
    refine lv_aload_n hC.x hC.b dX3_valueAtZero_11 rfl (lv_at hl 1 rfl) ?_
    refine rget hC hK hR (ct_line hk G _ _) rfl uin_X3 2 (by decide) TF_X3_17 rfl dX3_valueAtZero_12 ?_
    refine lv_aload_n hC.x hC.b dX3_valueAtZero_15 rfl (lv_at hl 1 rfl) ?_
    refine rget hC hK hR (ct_line hk G _ _) rfl uin_X3 3 (by decide) TF_X3_20 rfl dX3_valueAtZero_16 ?_
    refine lv_lmul hC.x hC.b dX3_valueAtZero_19 ?_
    refine lv_aload_n hC.x hC.b dX3_valueAtZero_20 rfl (lv_at hl 1 rfl) ?_
    refine rget hC hK hR (ct_line hk G _ _) rfl uin_X3 1 (by decide) TF_X3_13 rfl dX3_valueAtZero_21 ?_
    refine lv_aload_n hC.x hC.b dX3_valueAtZero_24 rfl (lv_at hl 1 rfl) ?_
    refine rget hC hK hR (ct_line hk G _ _) rfl uin_X3 4 (by decide) TF_X3_23 rfl dX3_valueAtZero_25 ?_
    refine lv_lmul hC.x hC.b dX3_valueAtZero_28 ?_
    refine lv_lsub hC.x hC.b dX3_valueAtZero_29 ?_
    refine lv_lload_n hC.x hC.b dX3_valueAtZero_30 rfl (lv_at hl 0 rfl) ?_
    refine golp (runS (As := [.long (((τ k 2) * (τ k 3)) - ((τ k 1) * (τ k 4))), .long x_3]) (rest := []) hC hK hR hl.1 (c5_J9_floorDiv_f86c9 l hG σ τ (((τ k 2) * (τ k 3)) - ((τ k 1) * (τ k 4))) x_3 (by omega)) (call_b hC.ts TC_J9_floorDiv_f86c9 TN_J9 TM_X3_30 hd_J9_floorDiv_f86c9 ⟨Nat.le_of_ble_eq_true rfl, Nat.le_of_ble_eq_true rfl⟩) TT_J9_floorDiv_f86c9 rfl rfl (Nat.le_of_ble_eq_true rfl) dX3_valueAtZero_31 ⟨Nat.le_of_ble_eq_true rfl, Nat.le_of_ble_eq_true rfl⟩) hS (fun v_6 H locs w_7 hR hS => ?_)
    have f_8 := w_7
    refine lv_goto (tgt := 41) hC.x hC.b dX3_valueAtZero_34 (by decide) ?_
    exact retl hC hK hR hS ⟨rfl, (by intro L hL hB; first | exact vz_y hL hB (by assumption) (by assumption) (by assumption) | exact vz_n hL hB (by assumption) (by assumption))⟩ dX3_valueAtZero_41

abbrev po5_X3_divisorOfBoth (σ : SI) (τ : SL) (k : Nat) : Int64 → SI × SL → Prop := fun v u => u = (σ, τ) ∧ (((∀ L, LNe σ τ k L → LB L → v.toInt = if 0 < BEr L then (Int.gcd (ABr L) (BEr L) : Int) else 0)))
set_option maxRecDepth 100000 in
set_option maxHeartbeats 4000000 in
theorem c5_X3_divisorOfBoth (l : Launch) {G : Gx} {A : Nat → Prop} (hG : GOk G A) (σ : SI) (τ : SL) (k : Nat) (hk : k = 19 ∨ k = 20) : ML l G A 1 yX3_divisorOfBoth cX3_divisorOfBoth 8 (some .long) [.ref (G.2.1 k)] (σ, τ) (po5_X3_divisorOfBoth σ τ k) := by
  refine met_of (own := RX3) (by decide +kernel) rfl [(0, .ref (G.2.1 k))] rfl (Nat.le_of_ble_eq_true rfl) ?_
  intro p e s m args below meth c ls hC hK hR hl
  have hS : va_S A s.heap s.heap [] := va_S.rf
  refine lv_aload_n hC.x hC.b dX3_divisorOfBoth_0 rfl (lv_at hl 0 rfl) ?_
  refine golp (runV (As := []) (rest := []) hC hK hR hl.1 (c_X3_rawBelow l hG σ τ k hk ) (call_b hC.ts TC_X3_rawBelow TN_X3 TM_X3_26 hd_X3_rawBelow ⟨Nat.le_of_ble_eq_true rfl, Nat.le_of_ble_eq_true rfl⟩) TI_X3_rawBelow TS_X3_rawBelow (ct_line hk G _ _) rfl rfl rfl (Nat.le_of_ble_eq_true rfl) dX3_divisorOfBoth_1 ⟨Nat.le_of_ble_eq_true rfl, Nat.le_of_ble_eq_true rfl⟩) hS (fun v_1 H locs w_2 hR hS => ?_)
  subst w_2
  refine lv_topl (fun x_3 ex_4 => ?_)
  refine lv_lstore_n (lv' := [(1, .long x_3), (0, .ref (G.2.1 k))]) hC.x hC.b dX3_divisorOfBoth_4 rfl hl (by decide) rfl (fun ls hl => ?_)
  refine lv_lload_n hC.x hC.b dX3_divisorOfBoth_5 rfl (lv_at hl 0 rfl) ?_
  refine lv_lconst (v := 0) hC.x hC.b dX3_divisorOfBoth_6 (by decide) ?_
  refine bl_gt (tgt := 13) (a := x_3.toInt) (b := 0) hC.x hC.b rfl rfl dX3_divisorOfBoth_7 dX3_divisorOfBoth_8 (by decide) (fun c_5 => ?_) (fun c_5 => ?_)
  · skip
    refine lv_aload_n hC.x hC.b dX3_divisorOfBoth_13 rfl (lv_at hl 1 rfl) ?_
    refine golp (runV (As := []) (rest := []) hC hK hR hl.1 (c_X3_rawAbove l hG σ τ k hk ) (call_b hC.ts TC_X3_rawAbove TN_X3 TM_X3_39 hd_X3_rawAbove ⟨Nat.le_of_ble_eq_true rfl, Nat.le_of_ble_eq_true rfl⟩) TI_X3_rawAbove TS_X3_rawAbove (ct_line hk G _ _) rfl rfl rfl (Nat.le_of_ble_eq_true rfl) dX3_divisorOfBoth_14 ⟨Nat.le_of_ble_eq_true rfl, Nat.le_of_ble_eq_true rfl⟩) hS (fun v_6 H locs w_7 hR hS => ?_)
    subst w_7
    refine golp (runS (As := [.long ((σ k 0).toInt64 * τ k 4 - τ k 1 * τ k 2)]) (rest := []) hC hK hR hl.1 (c_J9_abs_067f4 l hG σ τ ((σ k 0).toInt64 * τ k 4 - τ k 1 * τ k 2) ) (call_b hC.ts TC_J9_abs_067f4 TN_J9 TM_X3_42 hd_J9_abs_067f4 ⟨Nat.le_of_ble_eq_true rfl, Nat.le_of_ble_eq_true rfl⟩) TT_J9_abs_067f4 rfl rfl (Nat.le_of_ble_eq_true rfl) dX3_divisorOfBoth_17 ⟨Nat.le_of_ble_eq_true rfl, Nat.le_of_ble_eq_true rfl⟩) hS (fun v_8 H locs w_9 hR hS => ?_)
    have f_10 := w_9
    refine lv_lstore_n (lv' := [(3, .long v_8), (1, .long x_3), (0, .ref (G.2.1 k))]) hC.x hC.b dX3_divisorOfBoth_20 rfl hl (by decide) rfl (fun ls hl => ?_)
    refine lv_iconst (v := 0) hC.x hC.b dX3_divisorOfBoth_21 (by decide) ?_
    refine lv_istore (lv' := [(5, .int (0 : Int32)), (3, .long v_8), (1, .long x_3), (0, .ref (G.2.1 k))]) hC.x hC.b dX3_divisorOfBoth_22 hl (by decide) rfl (fun ls hl => ?_)
    have L_24 : ∀ (F : Nat) (n : Nat) (x1 : Int64) (x3 : Int64), (200 - n) < F → (n ≤ 200) → (DVi σ τ k x1 x3 n) → ∀ (H : Heap) (locs : List Loc) (ls : Array Slot), RepH G σ τ H → va_S A s.heap H locs → lv_has ls 8 [(0, .ref (G.2.1 k)), (1, .long x1), (3, .long x3), (5, .int (nI n))] → W p l e (rmD 1) s m args below meth c H locs 0 0 (MQ below (va_Ql (po5_X3_divisorOfBoth σ τ k) (BU G) A) args s 0 0 A) (F0 m 24 ls []) := by
      intro F
      induction F with
      | zero => intro n x1 x3 hm; exact absurd hm (Nat.not_lt_zero _)
      | succ F ih_24 =>
        intro n x1 x3 hm_24 hi0_24 hi1_24 H locs ls hR hS hl
        have hnI := nI_T n (by omega)
        refine lv_iload hC.x hC.b dX3_divisorOfBoth_24 (lv_at hl 3 rfl) ?_
        refine lv_sipush (v := 200) hC.x hC.b dX3_divisorOfBoth_26 (by decide) ?_
        refine bi_ge (tgt := 54) (a := (n : Int)) (b := 200) hC.x hC.b (nI_T n (by omega)) rfl dX3_divisorOfBoth_29 (by decide) (fun c_11 => ?_) (fun c_11 => ?_)
        · skip
          refine lv_lload_n hC.x hC.b dX3_divisorOfBoth_54 rfl (lv_at hl 1 rfl) ?_
          exact retl hC hK hR hS ⟨rfl, (by intro L hL hB; first | exact dv_y hL hB (by assumption) (by assumption) hi1_24 (by omega) | exact dv_n hL hB (by assumption) (by assumption))⟩ dX3_divisorOfBoth_55
        · skip
          refine lv_lload_n hC.x hC.b dX3_divisorOfBoth_32 rfl (lv_at hl 2 rfl) ?_
          refine lv_lconst (v := 0) hC.x hC.b dX3_divisorOfBoth_33 (by decide) ?_
          refine bl_eq (tgt := 54) (a := x3.toInt) (b := 0) hC.x hC.b rfl rfl dX3_divisorOfBoth_34 dX3_divisorOfBoth_35 (by decide) (fun c_12 => ?_) (fun c_12 => ?_)
          · skip
            refine lv_lload_n hC.x hC.b dX3_divisorOfBoth_54 rfl (lv_at hl 1 rfl) ?_
            exact retl hC hK hR hS ⟨rfl, (by intro L hL hB; first | exact dv_y hL hB (by assumption) (by assumption) hi1_24 (by omega) | exact dv_n hL hB (by assumption) (by assumption))⟩ dX3_divisorOfBoth_55
          · skip
            refine lv_lload_n hC.x hC.b dX3_divisorOfBoth_38 rfl (lv_at hl 1 rfl) ?_
            refine lv_lload_n hC.x hC.b dX3_divisorOfBoth_39 rfl (lv_at hl 2 rfl) ?_
            refine lv_lrem hC.x hC.b dX3_divisorOfBoth_40 (ne0L rfl (by omega)) ?_
            refine lv_lstore (lv' := [(6, .long (x1 - x1 / x3 * x3)), (0, .ref (G.2.1 k)), (1, .long x1), (3, .long x3), (5, .int (nI n))]) hC.x hC.b dX3_divisorOfBoth_41 hl (by decide) rfl (fun ls hl => ?_)
            refine lv_lload_n hC.x hC.b dX3_divisorOfBoth_43 rfl (lv_at hl 3 rfl) ?_
            refine lv_lstore_n (lv' := [(1, .long x3), (6, .long (x1 - x1 / x3 * x3)), (0, .ref (G.2.1 k)), (3, .long x3), (5, .int (nI n))]) hC.x hC.b dX3_divisorOfBoth_44 rfl hl (by decide) rfl (fun ls hl => ?_)
            refine lv_lload hC.x hC.b dX3_divisorOfBoth_45 (lv_at hl 1 rfl) ?_
            refine lv_lstore_n (lv' := [(3, .long (x1 - x1 / x3 * x3)), (1, .long x3), (6, .long (x1 - x1 / x3 * x3)), (0, .ref (G.2.1 k)), (5, .int (nI n))]) hC.x hC.b dX3_divisorOfBoth_47 rfl hl (by decide) rfl (fun ls hl => ?_)
            refine lv_iinc (v := nI (n + 1)) (lv' := [(5, .int (nI (n + 1))), (3, .long (x1 - x1 / x3 * x3)), (1, .long x3), (6, .long (x1 - x1 / x3 * x3)), (0, .ref (G.2.1 k))]) hC.x hC.b dX3_divisorOfBoth_48 hl (k := 4) rfl (nI_succ _).symm (by decide) rfl (fun ls hl => ?_)
            refine lv_goto (tgt := 24) hC.x hC.b dX3_divisorOfBoth_51 (by decide) ?_
            exact ih_24 (n + 1) x3 (x1 - x1 / x3 * x3) (by omega) (by first | omega | assumption) (by exact fun L hL hB => (hi1_24 L hL hB).go (by omega)) _ _ _ hR hS (lv_sub hl [4, 2, 1, 0] rfl)
    exact L_24 _ 0 x_3 v_8 (Nat.lt_succ_self _) (by first | omega | assumption) (by exact dvi_st (by assumption) (by assumption) (by assumption)) _ _ _ hR hS (lv_sub hl [3, 2, 1, 0] rfl)
  · skip
    refine lv_lconst (v := 0) hC.x hC.b dX3_divisorOfBoth_11 (by decide) ?_
    exact retl hC hK hR hS ⟨rfl, (by intro L hL hB; first | exact dv_y hL hB (by assumption) (by assumption) hi1_24 (by omega) | exact dv_n hL hB (by assumption) (by assumption))⟩ dX3_divisorOfBoth_12

abbrev po5_X3_slopeAbove (σ : SI) (τ : SL) (k : Nat) : Int64 → SI × SL → Prop := fun v u => u = (σ, τ) ∧ (((∀ L, LNe σ τ k L → LB L → v.toInt = (AB6 L).tdiv (Int.gcd (AB6 L) (BE6 L)))))
set_option maxRecDepth 100000 in
set_option maxHeartbeats 4000000 in
theorem c5_X3_slopeAbove (l : Launch) {G : Gx} {A : Nat → Prop} (hG : GOk G A) (σ : SI) (τ : SL) (k : Nat) (hk : k = 19 ∨ k = 20) : ML l G A 2 yX3_slopeAbove cX3_slopeAbove 3 (some .long) [.ref (G.2.1 k)] (σ, τ) (po5_X3_slopeAbove σ τ k) := by
  refine met_of (own := RX3) (by decide +kernel) rfl [(0, .ref (G.2.1 k))] rfl (Nat.le_of_ble_eq_true rfl) ?_
  intro p e s m args below meth c ls hC hK hR hl
  have hS : va_S A s.heap s.heap [] := va_S.rf
  refine lv_aload_n hC.x hC.b dX3_slopeAbove_0 rfl (lv_at hl 0 rfl) ?_
  refine golp (runV (As := []) (rest := []) hC hK hR hl.1 (c5_X3_divisorOfBoth l hG σ τ k hk ) (call_b hC.ts TC_X3_divisorOfBoth TN_X3 TM_X3_36 hd_X3_divisorOfBoth ⟨Nat.le_of_ble_eq_true rfl, Nat.le_of_ble_eq_true rfl⟩) TI_X3_divisorOfBoth TS_X3_divisorOfBoth (ct_line hk G _ _) rfl rfl rfl (Nat.le_of_ble_eq_true rfl) dX3_slopeAbove_1 ⟨Nat.le_of_ble_eq_true rfl, Nat.le_of_ble_eq_true rfl⟩) hS (fun v_1 H locs w_2 hR hS => ?_)
  have f_3 := w_2
  refine lv_lstore_n (lv' := [(1, .long v_1), (0, .ref (G.2.1 k))]) hC.x hC.b dX3_slopeAbove_4 rfl hl (by decide) rfl (fun ls hl => ?_)
  refine lv_lload_n hC.x hC.b dX3_slopeAbove_5 rfl (lv_at hl 0 rfl) ?_
  refine lv_lconst (v := 0) hC.x hC.b dX3_slopeAbove_6 (by decide) ?_
  refine bl_le (tgt := 20) (a := v_1.toInt) (b := 0) hC.x hC.b rfl rfl dX3_slopeAbove_7 dX3_slopeAbove_8 (by decide) (fun c_4 => ?_) (fun c_4 => ?_)
  · skip
    refine lv_lconst (v := 0) hC.x hC.b dX3_slopeAbove_20 (by decide) ?_
    exact retl hC hK hR hS ⟨rfl, (by intro L hL hB; first | exact sl_ay hL hB (by assumption) (by assumption) | exact sl_an hL hB (by assumption) (by assumption))⟩ dX3_slopeAbove_21
  · skip
    refine lv_aload_n hC.x hC.b dX3_slopeAbove_11 rfl (lv_at hl 1 rfl) ?_
    refine golp (runV (As := []) (rest := []) hC hK hR hl.1 (c_X3_rawAbove l hG σ τ k hk ) (call_b hC.ts TC_X3_rawAbove TN_X3 TM_X3_39 hd_X3_rawAbove ⟨Nat.le_of_ble_eq_true rfl, Nat.le_of_ble_eq_true rfl⟩) TI_X3_rawAbove TS_X3_rawAbove (ct_line hk G _ _) rfl rfl rfl (Nat.le_of_ble_eq_true rfl) dX3_slopeAbove_12 ⟨Nat.le_of_ble_eq_true rfl, Nat.le_of_ble_eq_true rfl⟩) hS (fun v_5 H locs w_6 hR hS => ?_)
    subst w_6
    refine lv_lload_n hC.x hC.b dX3_slopeAbove_15 rfl (lv_at hl 0 rfl) ?_
    refine lv_ldiv hC.x hC.b dX3_slopeAbove_16 (ne0L rfl (by omega)) ?_
    refine lv_goto (tgt := 21) hC.x hC.b dX3_slopeAbove_17 (by decide) ?_
    exact retl hC hK hR hS ⟨rfl, (by intro L hL hB; first | exact sl_ay hL hB (by assumption) (by assumption) | exact sl_an hL hB (by assumption) (by assumption))⟩ dX3_slopeAbove_21

abbrev po5_X3_slopeBelow (σ : SI) (τ : SL) (k : Nat) : Int64 → SI × SL → Prop := fun v u => u = (σ, τ) ∧ (((∀ L, LNe σ τ k L → LB L → v.toInt = (BE6 L).tdiv (Int.gcd (AB6 L) (BE6 L)))))
set_option maxRecDepth 100000 in
set_option maxHeartbeats 4000000 in
theorem c5_X3_slopeBelow (l : Launch) {G : Gx} {A : Nat → Prop} (hG : GOk G A) (σ : SI) (τ : SL) (k : Nat) (hk : k = 19 ∨ k = 20) : ML l G A 2 yX3_slopeBelow cX3_slopeBelow 3 (some .long) [.ref (G.2.1 k)] (σ, τ) (po5_X3_slopeBelow σ τ k) := by
  refine met_of (own := RX3) (by decide +kernel) rfl [(0, .ref (G.2.1 k))] rfl (Nat.le_of_ble_eq_true rfl) ?_
  intro p e s m args below meth c ls hC hK hR hl
  have hS : va_S A s.heap s.heap [] := va_S.rf
  refine lv_aload_n hC.x hC.b dX3_slopeBelow_0 rfl (lv_at hl 0 rfl) ?_
  refine golp (runV (As := []) (rest := []) hC hK hR hl.1 (c5_X3_divisorOfBoth l hG σ τ k hk ) (call_b hC.ts TC_X3_divisorOfBoth TN_X3 TM_X3_36 hd_X3_divisorOfBoth ⟨Nat.le_of_ble_eq_true rfl, Nat.le_of_ble_eq_true rfl⟩) TI_X3_divisorOfBoth TS_X3_divisorOfBoth (ct_line hk G _ _) rfl rfl rfl (Nat.le_of_ble_eq_true rfl) dX3_slopeBelow_1 ⟨Nat.le_of_ble_eq_true rfl, Nat.le_of_ble_eq_true rfl⟩) hS (fun v_1 H locs w_2 hR hS => ?_)
  have f_3 := w_2
  refine lv_lstore_n (lv' := [(1, .long v_1), (0, .ref (G.2.1 k))]) hC.x hC.b dX3_slopeBelow_4 rfl hl (by decide) rfl (fun ls hl => ?_)
  refine lv_lload_n hC.x hC.b dX3_slopeBelow_5 rfl (lv_at hl 0 rfl) ?_
  refine lv_lconst (v := 0) hC.x hC.b dX3_slopeBelow_6 (by decide) ?_
  refine bl_le (tgt := 20) (a := v_1.toInt) (b := 0) hC.x hC.b rfl rfl dX3_slopeBelow_7 dX3_slopeBelow_8 (by decide) (fun c_4 => ?_) (fun c_4 => ?_)
  · skip
    refine lv_lconst (v := 1) hC.x hC.b dX3_slopeBelow_20 (by decide) ?_
    exact retl hC hK hR hS ⟨rfl, (by intro L hL hB; first | exact sl_by hL hB (by assumption) (by assumption) | exact sl_bn hL hB (by assumption) (by assumption))⟩ dX3_slopeBelow_21
  · skip
    refine lv_aload_n hC.x hC.b dX3_slopeBelow_11 rfl (lv_at hl 1 rfl) ?_
    refine golp (runV (As := []) (rest := []) hC hK hR hl.1 (c_X3_rawBelow l hG σ τ k hk ) (call_b hC.ts TC_X3_rawBelow TN_X3 TM_X3_26 hd_X3_rawBelow ⟨Nat.le_of_ble_eq_true rfl, Nat.le_of_ble_eq_true rfl⟩) TI_X3_rawBelow TS_X3_rawBelow (ct_line hk G _ _) rfl rfl rfl (Nat.le_of_ble_eq_true rfl) dX3_slopeBelow_12 ⟨Nat.le_of_ble_eq_true rfl, Nat.le_of_ble_eq_true rfl⟩) hS (fun v_5 H locs w_6 hR hS => ?_)
    subst w_6
    refine lv_lload_n hC.x hC.b dX3_slopeBelow_15 rfl (lv_at hl 0 rfl) ?_
    refine lv_ldiv hC.x hC.b dX3_slopeBelow_16 (ne0L rfl (by omega)) ?_
    refine lv_goto (tgt := 21) hC.x hC.b dX3_slopeBelow_17 (by decide) ?_
    exact retl hC hK hR hS ⟨rfl, (by intro L hL hB; first | exact sl_by hL hB (by assumption) (by assumption) | exact sl_bn hL hB (by assumption) (by assumption))⟩ dX3_slopeBelow_21

abbrev po5_X7_ofClock (σ : SI) (τ : SL) (wa : Int32) (hr : Int32) (pl : Int32) : Int32 → SI × SL → Prop := fun v u => u = (σ, τ) ∧ (((v = (ofC σ wa hr pl))))
set_option maxRecDepth 100000 in
set_option maxHeartbeats 4000000 in
theorem c5_X7_ofClock (l : Launch) {G : Gx} {A : Nat → Prop} (hG : GOk G A) (σ : SI) (τ : SL) (wa : Int32) (hr : Int32) (pl : Int32) : MI l G A 0 yX7_ofClock cX7_ofClock 4 (some .int) [.ref (G.2.1 5), .int wa, .int hr, .int pl] (σ, τ) (po5_X7_ofClock σ τ wa hr pl) := by
  refine met_of (own := RX7) (by decide +kernel) rfl [(0, .ref (G.2.1 5)), (1, .int wa), (2, .int hr), (3, .int pl)] rfl (Nat.le_of_ble_eq_true rfl) ?_
  intro p e s m args below meth c ls hC hK hR hl
  have hS : va_S A s.heap s.heap [] := va_S.rf
  refine lv_iload_n hC.x hC.b dX7_ofClock_0 rfl (lv_at hl 1 rfl) ?_
  refine bz_lt (tgt := 30) (a := wa.toInt) (b := 0) hC.x hC.b rfl rfl dX7_ofClock_1 (by decide) (fun c_1 => ?_) (fun c_1 => ?_)
  · skip
    refine lv_ldc hC.x hC.b hC.ow (hC.ts _ TK_X7_19) dX7_ofClock_30 ?_
    exact reti hC hK hR hS ⟨rfl, (by unfold ofC; first | (rw [if_pos (by omega)]; done) | (rw [if_neg (by omega)]; done))⟩ dX7_ofClock_32
  · skip
    refine lv_iload_n hC.x hC.b dX7_ofClock_4 rfl (lv_at hl 1 rfl) ?_
    refine lv_iconst (v := 5) hC.x hC.b dX7_ofClock_5 (by decide) ?_
    refine bi_ge (tgt := 30) (a := wa.toInt) (b := 5) hC.x hC.b rfl rfl dX7_ofClock_6 (by decide) (fun c_2 => ?_) (fun c_2 => ?_)
    · skip
      refine lv_ldc hC.x hC.b hC.ow (hC.ts _ TK_X7_19) dX7_ofClock_30 ?_
      exact reti hC hK hR hS ⟨rfl, (by unfold ofC; first | (rw [if_pos (by omega)]; done) | (rw [if_neg (by omega)]; done))⟩ dX7_ofClock_32
    · skip
      refine lv_iload_n hC.x hC.b dX7_ofClock_9 rfl (lv_at hl 2 rfl) ?_
      refine bz_lt (tgt := 30) (a := hr.toInt) (b := 0) hC.x hC.b rfl rfl dX7_ofClock_10 (by decide) (fun c_3 => ?_) (fun c_3 => ?_)
      · skip
        refine lv_ldc hC.x hC.b hC.ow (hC.ts _ TK_X7_19) dX7_ofClock_30 ?_
        exact reti hC hK hR hS ⟨rfl, (by unfold ofC; first | (rw [if_pos (by omega)]; done) | (rw [if_neg (by omega)]; done))⟩ dX7_ofClock_32
      · skip
        refine lv_iload_n hC.x hC.b dX7_ofClock_13 rfl (lv_at hl 2 rfl) ?_
        refine lv_sipush (v := 200) hC.x hC.b dX7_ofClock_14 (by decide) ?_
        refine bi_ge (tgt := 30) (a := hr.toInt) (b := 200) hC.x hC.b rfl rfl dX7_ofClock_17 (by decide) (fun c_4 => ?_) (fun c_4 => ?_)
        · skip
          refine lv_ldc hC.x hC.b hC.ow (hC.ts _ TK_X7_19) dX7_ofClock_30 ?_
          exact reti hC hK hR hS ⟨rfl, (by unfold ofC; first | (rw [if_pos (by omega)]; done) | (rw [if_neg (by omega)]; done))⟩ dX7_ofClock_32
        · skip
          refine lv_iload_n hC.x hC.b dX7_ofClock_20 rfl (lv_at hl 3 rfl) ?_
          refine bz_lt (tgt := 30) (a := pl.toInt) (b := 0) hC.x hC.b rfl rfl dX7_ofClock_21 (by decide) (fun c_5 => ?_) (fun c_5 => ?_)
          · skip
            refine lv_ldc hC.x hC.b hC.ow (hC.ts _ TK_X7_19) dX7_ofClock_30 ?_
            exact reti hC hK hR hS ⟨rfl, (by unfold ofC; first | (rw [if_pos (by omega)]; done) | (rw [if_neg (by omega)]; done))⟩ dX7_ofClock_32
          · skip
            refine lv_iload_n hC.x hC.b dX7_ofClock_24 rfl (lv_at hl 3 rfl) ?_
            refine lv_bipush (v := 24) hC.x hC.b dX7_ofClock_25 (by decide) ?_
            refine bi_lt (tgt := 33) (a := pl.toInt) (b := 24) hC.x hC.b rfl rfl dX7_ofClock_27 (by decide) (fun c_6 => ?_) (fun c_6 => ?_)
            · skip
              refine lv_aload_n hC.x hC.b dX7_ofClock_33 rfl (lv_at hl 0 rfl) ?_
              refine rget hC hK hR (ct_told G _ _) rfl uin_X7 0 (by decide) TF_X7_11 rfl dX7_ofClock_34 ?_
              refine lv_iload_n hC.x hC.b dX7_ofClock_37 rfl (lv_at hl 1 rfl) ?_
              have hq_7 : wa.toInt.toNat < 5 := by omega
              refine aald (t0 := 4) hC hK hR (by decide) rfl (ct_clockRows G _ _) rfl (by omega) (by omega) rfl dX7_ofClock_38 ?_
              refine lv_iload_n hC.x hC.b dX7_ofClock_39 rfl (lv_at hl 2 rfl) ?_
              refine lv_bipush (v := 24) hC.x hC.b dX7_ofClock_40 (by decide) ?_
              refine lv_imul hC.x hC.b dX7_ofClock_42 ?_
              have pr_8 : (hr * (24 : Int32)).toInt = (hr.toInt * 24) := mulI rfl rfl (by omega) (by omega)
              refine lv_iload_n hC.x hC.b dX7_ofClock_43 rfl (lv_at hl 3 rfl) ?_
              refine lv_iadd hC.x hC.b dX7_ofClock_44 ?_
              have pr_9 : ((hr * (24 : Int32)) + pl).toInt = ((hr.toInt * 24) + pl.toInt) := addI pr_8 rfl (by omega) (by omega)
              refine ald hC hK hR (ct_cr hq_7 G _ _) pr_9 (by omega) (by omega) rfl dX7_ofClock_45 ?_
              exact reti hC hK hR hS ⟨rfl, (by unfold ofC; first | (rw [if_pos (by omega)]; done) | (rw [if_neg (by omega)]; done))⟩ dX7_ofClock_46
            · skip
              refine lv_ldc hC.x hC.b hC.ow (hC.ts _ TK_X7_19) dX7_ofClock_30 ?_
              exact reti hC hK hR hS ⟨rfl, (by unfold ofC; first | (rw [if_pos (by omega)]; done) | (rw [if_neg (by omega)]; done))⟩ dX7_ofClock_32

abbrev po5_X2_xOf (σ : SI) (τ : SL) (cq : Nat) (hr : Int32) : Int32 → SI × SL → Prop := fun v u => u = (σ, τ) ∧ (((v = (xC σ 24 cq hr.toInt))))
set_option maxRecDepth 100000 in
set_option maxHeartbeats 4000000 in
theorem c5_X2_xOf (l : Launch) {G : Gx} {A : Nat → Prop} (hG : GOk G A) (σ : SI) (τ : SL) (cq : Nat) (hcq : cq < 24) (hr : Int32) : MI l G A 1 yX2_xOf cX2_xOf 3 (some .int) [.ref (G.2.1 18), .ref (G.2.1 (80 + cq)), .int hr] (σ, τ) (po5_X2_xOf σ τ cq hr) := by
  refine met_of (own := RX2) (by decide +kernel) rfl [(0, .ref (G.2.1 18)), (1, .ref (G.2.1 (80 + cq))), (2, .int hr)] rfl (Nat.le_of_ble_eq_true rfl) ?_
  intro p e s m args below meth c ls hC hK hR hl
  have hS : va_S A s.heap s.heap [] := va_S.rf
  refine lv_iload_n hC.x hC.b dX2_xOf_0 rfl (lv_at hl 2 rfl) ?_
  refine lv_aload_n hC.x hC.b dX2_xOf_1 rfl (lv_at hl 1 rfl) ?_
  refine rget hC hK hR (ct_clock hcq G _ _) rfl uin_X0 8 (by decide) TF_X2_39 rfl dX2_xOf_2 ?_
  refine bi_ge (tgt := 13) (a := hr.toInt) (b := (σ (80 + cq) 8).toInt) hC.x hC.b rfl rfl dX2_xOf_5 (by decide) (fun c_1 => ?_) (fun c_1 => ?_)
  · skip
    refine lv_aload_n hC.x hC.b dX2_xOf_13 rfl (lv_at hl 0 rfl) ?_
    refine rget hC hK hR (ct_fore G _ _) rfl uin_X2 0 (by decide) TF_X2_35 rfl dX2_xOf_14 ?_
    refine lv_iconst (v := 0) hC.x hC.b dX2_xOf_17 (by decide) ?_
    refine lv_iload_n hC.x hC.b dX2_xOf_18 rfl (lv_at hl 2 rfl) ?_
    refine lv_aload_n hC.x hC.b dX2_xOf_19 rfl (lv_at hl 1 rfl) ?_
    refine rget hC hK hR (ct_clock hcq G _ _) rfl uin_X0 0 (by decide) TF_X2_45 rfl dX2_xOf_20 ?_
    have av_2 : (0 : Int32).toInt = 0 := by decide
    have av_3 : (nI cq).toInt = ((cq : Nat) : Int) := (nI_T _ (by omega))
    refine goip (runV (As := [.int (0 : Int32), .int hr, .int (nI cq)]) (rest := []) hC hK hR hl.1 (c5_X7_ofClock l hG σ τ (0 : Int32) hr (nI cq) ) (call_b hC.ts TC_X7_ofClock TN_X7 TM_X2_48 hd_X7_ofClock ⟨Nat.le_of_ble_eq_true rfl, Nat.le_of_ble_eq_true rfl⟩) TI_X7_ofClock TS_X7_ofClock (ct_told G _ _) rfl rfl rfl (Nat.le_of_ble_eq_true rfl) dX2_xOf_23 ⟨Nat.le_of_ble_eq_true rfl, Nat.le_of_ble_eq_true rfl⟩) hS (fun v_4 H locs w_5 hR hS => ?_)
    subst w_5
    exact reti hC hK hR hS ⟨rfl, (by unfold xC; first | (rw [if_pos (by omega)]; done) | (rw [if_neg (by omega)]; exact ofC_r (w := 0) (by decide) (by omega) (by omega)))⟩ dX2_xOf_26
  · skip
    refine lv_ldc hC.x hC.b hC.ow (hC.ts _ TK_X2_44) dX2_xOf_8 ?_
    refine lv_goto (tgt := 26) hC.x hC.b dX2_xOf_10 (by decide) ?_
    exact reti hC hK hR hS ⟨rfl, (by unfold xC; first | (rw [if_pos (by omega)]; done) | (rw [if_neg (by omega)]; exact ofC_r (w := 0) (by decide) (by omega) (by omega)))⟩ dX2_xOf_26

abbrev po5_X2_missedOf (σ : SI) (τ : SL) (cq : Nat) (hr : Int32) : Int32 → SI × SL → Prop := fun v u => u = (σ, τ) ∧ (((v = (xC σ 26 cq hr.toInt))))
set_option maxRecDepth 100000 in
set_option maxHeartbeats 4000000 in
theorem c5_X2_missedOf (l : Launch) {G : Gx} {A : Nat → Prop} (hG : GOk G A) (σ : SI) (τ : SL) (cq : Nat) (hcq : cq < 24) (hr : Int32) : MI l G A 1 yX2_missedOf cX2_missedOf 3 (some .int) [.ref (G.2.1 18), .ref (G.2.1 (80 + cq)), .int hr] (σ, τ) (po5_X2_missedOf σ τ cq hr) := by
  refine met_of (own := RX2) (by decide +kernel) rfl [(0, .ref (G.2.1 18)), (1, .ref (G.2.1 (80 + cq))), (2, .int hr)] rfl (Nat.le_of_ble_eq_true rfl) ?_
  intro p e s m args below meth c ls hC hK hR hl
  have hS : va_S A s.heap s.heap [] := va_S.rf
  refine lv_iload_n hC.x hC.b dX2_missedOf_0 rfl (lv_at hl 2 rfl) ?_
  refine lv_aload_n hC.x hC.b dX2_missedOf_1 rfl (lv_at hl 1 rfl) ?_
  refine rget hC hK hR (ct_clock hcq G _ _) rfl uin_X0 8 (by decide) TF_X2_39 rfl dX2_missedOf_2 ?_
  refine bi_ge (tgt := 13) (a := hr.toInt) (b := (σ (80 + cq) 8).toInt) hC.x hC.b rfl rfl dX2_missedOf_5 (by decide) (fun c_1 => ?_) (fun c_1 => ?_)
  · skip
    refine lv_aload_n hC.x hC.b dX2_missedOf_13 rfl (lv_at hl 0 rfl) ?_
    refine rget hC hK hR (ct_fore G _ _) rfl uin_X2 0 (by decide) TF_X2_35 rfl dX2_missedOf_14 ?_
    refine lv_iconst (v := 2) hC.x hC.b dX2_missedOf_17 (by decide) ?_
    refine lv_iload_n hC.x hC.b dX2_missedOf_18 rfl (lv_at hl 2 rfl) ?_
    refine lv_aload_n hC.x hC.b dX2_missedOf_19 rfl (lv_at hl 1 rfl) ?_
    refine rget hC hK hR (ct_clock hcq G _ _) rfl uin_X0 0 (by decide) TF_X2_45 rfl dX2_missedOf_20 ?_
    have av_2 : (2 : Int32).toInt = 2 := by decide
    have av_3 : (nI cq).toInt = ((cq : Nat) : Int) := (nI_T _ (by omega))
    refine goip (runV (As := [.int (2 : Int32), .int hr, .int (nI cq)]) (rest := []) hC hK hR hl.1 (c5_X7_ofClock l hG σ τ (2 : Int32) hr (nI cq) ) (call_b hC.ts TC_X7_ofClock TN_X7 TM_X2_48 hd_X7_ofClock ⟨Nat.le_of_ble_eq_true rfl, Nat.le_of_ble_eq_true rfl⟩) TI_X7_ofClock TS_X7_ofClock (ct_told G _ _) rfl rfl rfl (Nat.le_of_ble_eq_true rfl) dX2_missedOf_23 ⟨Nat.le_of_ble_eq_true rfl, Nat.le_of_ble_eq_true rfl⟩) hS (fun v_4 H locs w_5 hR hS => ?_)
    subst w_5
    exact reti hC hK hR hS ⟨rfl, (by unfold xC; first | (rw [if_pos (by omega)]; done) | (rw [if_neg (by omega)]; exact ofC_r (w := 2) (by decide) (by omega) (by omega)))⟩ dX2_missedOf_26
  · skip
    refine lv_ldc hC.x hC.b hC.ow (hC.ts _ TK_X2_44) dX2_missedOf_8 ?_
    refine lv_goto (tgt := 26) hC.x hC.b dX2_missedOf_10 (by decide) ?_
    exact reti hC hK hR hS ⟨rfl, (by unfold xC; first | (rw [if_pos (by omega)]; done) | (rw [if_neg (by omega)]; exact ofC_r (w := 2) (by decide) (by omega) (by omega)))⟩ dX2_missedOf_26

abbrev po5_X2_countXs (σ : SI) (τ : SL) (cq : Nat) (hr : Int32) : Int32 → SI × SL → Prop := fun v u => u = (σ, τ) ∧ (((v = (cnX (xC σ 24 cq) hr.toInt.toNat))))
set_option maxRecDepth 100000 in
set_option maxHeartbeats 4000000 in
theorem c5_X2_countXs (l : Launch) {G : Gx} {A : Nat → Prop} (hG : GOk G A) (σ : SI) (τ : SL) (cq : Nat) (hcq : cq < 24) (hr : Int32) (hhr : 0 ≤ hr.toInt ∧ hr.toInt ≤ 200) (hkq : KQ6 σ cq hr) : MI l G A 2 yX2_countXs cX2_countXs 5 (some .int) [.ref (G.2.1 18), .ref (G.2.1 (80 + cq)), .int hr] (σ, τ) (po5_X2_countXs σ τ cq hr) := by
  refine met_of (own := RX2) (by decide +kernel) rfl [(0, .ref (G.2.1 18)), (1, .ref (G.2.1 (80 + cq))), (2, .int hr)] rfl (Nat.le_of_ble_eq_true rfl) ?_
  intro p e s m args below meth c ls hC hK hR hl
  have hS : va_S A s.heap s.heap [] := va_S.rf
  obtain ⟨hk1, hk2, hk3, hkx, hkm⟩ := id hkq
  refine lv_iconst (v := 0) hC.x hC.b dX2_countXs_0 (by decide) ?_
  refine lv_istore_n (lv' := [(3, .int (0 : Int32)), (0, .ref (G.2.1 18)), (1, .ref (G.2.1 (80 + cq))), (2, .int hr)]) hC.x hC.b dX2_countXs_1 rfl hl (by decide) rfl (fun ls hl => ?_)
  refine lv_aload_n hC.x hC.b dX2_countXs_2 rfl (lv_at hl 2 rfl) ?_
  refine rget hC hK hR (ct_clock hcq G _ _) rfl uin_X0 8 (by decide) TF_X2_39 rfl dX2_countXs_3 ?_
  refine lv_istore (lv' := [(4, .int (σ (80 + cq) 8)), (3, .int (0 : Int32)), (0, .ref (G.2.1 18)), (1, .ref (G.2.1 (80 + cq))), (2, .int hr)]) hC.x hC.b dX2_countXs_6 hl (by decide) rfl (fun ls hl => ?_)
  have L_8 : ∀ (F : Nat) (x3 : Int32) (t : Int32), ((hr.toInt - t.toInt).toNat) < F → ((σ (80 + cq) 8).toInt ≤ t.toInt ∧ t.toInt ≤ hr.toInt) → (x3 = cnX (xC σ 24 cq) t.toInt.toNat) → ∀ (H : Heap) (locs : List Loc) (ls : Array Slot), RepH G σ τ H → va_S A s.heap H locs → lv_has ls 5 [(0, .ref (G.2.1 18)), (1, .ref (G.2.1 (80 + cq))), (2, .int hr), (3, .int x3), (4, .int t)] → W p l e (rmD 2) s m args below meth c H locs 0 0 (MQ below (va_Qi (po5_X2_countXs σ τ cq hr) (BU G) A) args s 0 0 A) (F0 m 8 ls []) := by
    intro F
    induction F with
    | zero => intro x3 t hm; exact absurd hm (Nat.not_lt_zero _)
    | succ F ih_8 =>
      intro x3 t hm_8 hi0_8 hi1_8 H locs ls hR hS hl
      refine lv_iload hC.x hC.b dX2_countXs_8 (lv_at hl 4 rfl) ?_
      refine lv_iload_n hC.x hC.b dX2_countXs_10 rfl (lv_at hl 2 rfl) ?_
      refine bi_ge (tgt := 35) (a := t.toInt) (b := hr.toInt) hC.x hC.b rfl rfl dX2_countXs_11 (by decide) (fun c_1 => ?_) (fun c_1 => ?_)
      · skip
        refine lv_iload_n hC.x hC.b dX2_countXs_35 rfl (lv_at hl 3 rfl) ?_
        exact reti hC hK hR hS ⟨rfl, (by (have e9 : t.toInt = hr.toInt := by omega); rw [← e9]; exact hi1_8)⟩ dX2_countXs_36
      · skip
        refine lv_aload_n hC.x hC.b dX2_countXs_14 rfl (lv_at hl 0 rfl) ?_
        refine lv_aload_n hC.x hC.b dX2_countXs_15 rfl (lv_at hl 1 rfl) ?_
        refine lv_iload hC.x hC.b dX2_countXs_16 (lv_at hl 4 rfl) ?_
        refine goip (runV (As := [.ref (G.2.1 (80 + cq)), .int t]) (rest := []) hC hK hR hl.1 (c5_X2_xOf l hG σ τ cq hcq t ) (call_b hC.ts TC_X2_xOf TN_X2 TM_X2_54 hd_X2_xOf ⟨Nat.le_of_ble_eq_true rfl, Nat.le_of_ble_eq_true rfl⟩) TI_X2_xOf TS_X2_xOf (ct_fore G _ _) rfl rfl rfl (Nat.le_of_ble_eq_true rfl) dX2_countXs_18 ⟨Nat.le_of_ble_eq_true rfl, Nat.le_of_ble_eq_true rfl⟩) hS (fun v_2 H locs w_3 hR hS => ?_)
        subst w_3
        refine lv_ldc hC.x hC.b hC.ow (hC.ts _ TK_X2_44) dX2_countXs_21 ?_
        refine bi_eq (tgt := 29) (a := (xC σ 24 cq t.toInt).toInt) (b := 2000000000) hC.x hC.b rfl rfl dX2_countXs_23 (by decide) (fun c_4 => ?_) (fun c_4 => ?_)
        · skip
          obtain ⟨x_5, ex_6⟩ : ∃ y : Int32, y = t + 1 := ⟨_, rfl⟩
          have pr_7 : x_5.toInt = t.toInt + (1) := by rw [ex_6]; exact addI rfl rfl (by omega) (by omega)
          refine lv_iinc (v := x_5) (lv' := [(4, .int x_5), (0, .ref (G.2.1 18)), (1, .ref (G.2.1 (80 + cq))), (2, .int hr), (3, .int x3)]) hC.x hC.b dX2_countXs_29 hl (k := 4) rfl ex_6.symm (by decide) rfl (fun ls hl => ?_)
          refine lv_goto (tgt := 8) hC.x hC.b dX2_countXs_32 (by decide) ?_
          exact ih_8 x3 x_5 (by omega) (by first | omega | assumption) (by first | exact cnX_n hi1_8 (by omega) (by omega) (by assumption) | exact cnX_y hi1_8 (by omega) (by omega) (by assumption) (by assumption)) _ _ _ hR hS (lv_sub hl [1, 2, 3, 4, 0] rfl)
        · skip
          obtain ⟨x_8, ex_9⟩ : ∃ y : Int32, y = x3 + 1 := ⟨_, rfl⟩
          refine lv_iinc (v := x_8) (lv' := [(3, .int x_8), (0, .ref (G.2.1 18)), (1, .ref (G.2.1 (80 + cq))), (2, .int hr), (4, .int t)]) hC.x hC.b dX2_countXs_26 hl (k := 3) rfl ex_9.symm (by decide) rfl (fun ls hl => ?_)
          obtain ⟨x_10, ex_11⟩ : ∃ y : Int32, y = t + 1 := ⟨_, rfl⟩
          have pr_12 : x_10.toInt = t.toInt + (1) := by rw [ex_11]; exact addI rfl rfl (by omega) (by omega)
          refine lv_iinc (v := x_10) (lv' := [(4, .int x_10), (3, .int x_8), (0, .ref (G.2.1 18)), (1, .ref (G.2.1 (80 + cq))), (2, .int hr)]) hC.x hC.b dX2_countXs_29 hl (k := 4) rfl ex_11.symm (by decide) rfl (fun ls hl => ?_)
          refine lv_goto (tgt := 8) hC.x hC.b dX2_countXs_32 (by decide) ?_
          exact ih_8 x_8 x_10 (by omega) (by first | omega | assumption) (by first | exact cnX_n hi1_8 (by omega) (by omega) (by assumption) | exact cnX_y hi1_8 (by omega) (by omega) (by assumption) (by assumption)) _ _ _ hR hS (lv_sub hl [2, 3, 4, 1, 0] rfl)
  exact L_8 _ (0 : Int32) (σ (80 + cq) 8) (Nat.lt_succ_self _) (by first | omega | assumption) (by exact cnX_st (by omega)) _ _ _ hR hS (lv_sub hl [2, 3, 4, 1, 0] rfl)

abbrev po5_X2_lineOf (G : Gx) (σ : SI) (τ : SL) (cq : Nat) (hr : Int32) : Option Nat → SI × SL → Prop := fun v u => ((v = some (G.2.1 19)) ∧ (Fr (fun k => 18 ≤ k ∧ k ≤ 20) σ u.1) ∧ (LNe u.1 u.2 19 (LF (xC σ 24 cq) (σ (80 + cq) 2).toInt hr.toInt (σ (80 + cq) 1).toInt)) ∧ ((u.2 18 3).toInt = BF6 (xC σ 24 cq) (σ (80 + cq) 2).toInt hr.toInt (σ (80 + cq) 1).toInt)) ∨ ((v = some (G.2.1 20)) ∧ (Fr (fun k => 18 ≤ k ∧ k ≤ 20) σ u.1) ∧ (LNe u.1 u.2 20 (LF (xC σ 24 cq) (σ (80 + cq) 2).toInt hr.toInt (σ (80 + cq) 1).toInt)) ∧ ((u.2 18 3).toInt = BF6 (xC σ 24 cq) (σ (80 + cq) 2).toInt hr.toInt (σ (80 + cq) 1).toInt))
set_option maxRecDepth 100000 in
set_option maxHeartbeats 4000000 in
theorem c5_X2_lineOf (l : Launch) {G : Gx} {A : Nat → Prop} (hG : GOk G A) (σ : SI) (τ : SL) (cq : Nat) (hcq : cq < 24) (hr : Int32) (hhr : 0 ≤ hr.toInt ∧ hr.toInt ≤ 200) (hkq : KQ6 σ cq hr) : MR l G A 2 yX2_lineOf cX2_lineOf 6 (some (.object "TimeBench$Line")) [.ref (G.2.1 18), .ref (G.2.1 (80 + cq)), .int hr] (σ, τ) (po5_X2_lineOf G σ τ cq hr) := by
  refine met_of (own := RX2) (by decide +kernel) rfl [(0, .ref (G.2.1 18)), (1, .ref (G.2.1 (80 + cq))), (2, .int hr)] rfl (Nat.le_of_ble_eq_true rfl) ?_
  intro p e s m args below meth c ls hC hK hR hl
  have hS : va_S A s.heap s.heap [] := va_S.rf
  obtain ⟨hk1, hk2, hk3, hkx, hkm⟩ := id hkq
  refine lv_aload_n hC.x hC.b dX2_lineOf_0 rfl (lv_at hl 0 rfl) ?_
  refine rget hC hK hR (ct_fore G _ _) rfl uin_X2 1 (by decide) TF_X2_12 rfl dX2_lineOf_1 ?_
  refine gov (runV (As := []) (rest := []) hC hK hR hl.1 (c5_X3_clear l hG σ τ 19 (by decide) ) (call_b hC.ts TC_X3_clear TN_X3 TM_X2_58 hd_X3_clear ⟨Nat.le_of_ble_eq_true rfl, Nat.le_of_ble_eq_true rfl⟩) TI_X3_clear TS_X3_clear (ct_xs G _ _) rfl rfl rfl (Nat.le_of_ble_eq_true rfl) dX2_lineOf_4 ⟨Nat.le_of_ble_eq_true rfl, Nat.le_of_ble_eq_true rfl⟩) hS (fun s_3 t_4 H locs w_2 hR hS => ?_)
  try dsimp only [po5_X3_clear] at w_2
  obtain ⟨f_5, f_6, f_7⟩ := w_2
  refine lv_aload_n hC.x hC.b dX2_lineOf_7 rfl (lv_at hl 0 rfl) ?_
  refine rget hC hK hR (ct_fore G _ _) rfl uin_X2 2 (by decide) TF_X2_18 rfl dX2_lineOf_8 ?_
  refine gov (runV (As := []) (rest := []) hC hK hR hl.1 (c5_X3_clear l hG s_3 t_4 20 (by decide) ) (call_b hC.ts TC_X3_clear TN_X3 TM_X2_58 hd_X3_clear ⟨Nat.le_of_ble_eq_true rfl, Nat.le_of_ble_eq_true rfl⟩) TI_X3_clear TS_X3_clear (ct_gains G _ _) rfl rfl rfl (Nat.le_of_ble_eq_true rfl) dX2_lineOf_11 ⟨Nat.le_of_ble_eq_true rfl, Nat.le_of_ble_eq_true rfl⟩) hS (fun s_10 t_11 H locs w_9 hR hS => ?_)
  try dsimp only [po5_X3_clear] at w_9
  obtain ⟨f_12, f_13, f_14⟩ := w_9
  refine lv_ldc hC.x hC.b hC.ow (hC.ts _ TK_X2_44) dX2_lineOf_14 ?_
  refine lv_istore_n (lv' := [(3, .int (2000000000 : Int32)), (0, .ref (G.2.1 18)), (1, .ref (G.2.1 (80 + cq))), (2, .int hr)]) hC.x hC.b dX2_lineOf_16 rfl hl (by decide) rfl (fun ls hl => ?_)
  refine lv_iload_n hC.x hC.b dX2_lineOf_17 rfl (lv_at hl 3 rfl) ?_
  refine lv_aload_n hC.x hC.b dX2_lineOf_18 rfl (lv_at hl 2 rfl) ?_
  refine rget hC hK hR (ct_clock hcq G _ _) rfl uin_X0 2 (by decide) TF_X2_61 rfl dX2_lineOf_19 ?_
  have rd_15 : (s_10 (80 + cq) 2).toInt = (σ (80 + cq) 2).toInt := congrArg Int32.toInt (Eq.trans (show s_10 (80 + cq) 2 = s_3 (80 + cq) 2 from congrFun (f_12 (80 + cq) (by first | omega | (dsimp only; omega))) 2) (show s_3 (80 + cq) 2 = σ (80 + cq) 2 from congrFun (f_5 (80 + cq) (by first | omega | (dsimp only; omega))) 2))
  refine lv_isub hC.x hC.b dX2_lineOf_22 ?_
  have pr_16 : (hr - (s_10 (80 + cq) 2)).toInt = (hr.toInt - (s_10 (80 + cq) 2).toInt) := subI rfl rfl (by omega) (by omega)
  refine lv_topi (fun x_17 ex_18 => ?_)
  have pr_19 : x_17.toInt = (hr.toInt - (s_10 (80 + cq) 2).toInt) := by rw [ex_18]; exact pr_16
  refine lv_istore (lv' := [(4, .int x_17), (3, .int (2000000000 : Int32)), (0, .ref (G.2.1 18)), (1, .ref (G.2.1 (80 + cq))), (2, .int hr)]) hC.x hC.b dX2_lineOf_23 hl (by decide) rfl (fun ls hl => ?_)
  have L_25 : ∀ (F : Nat) (n : Nat) (x3 : Int32) (t : Int32) (s1 : SI) (t1 : SL), ((hr.toInt - t.toInt).toNat) < F → (t.toInt = (hr.toInt - (σ (80 + cq) 2).toInt) + n ∧ (n : Int) ≤ (σ (80 + cq) 2).toInt) → (LNe s1 t1 19 (LN (fX (xC σ 24 cq)) (hr.toInt - (σ (80 + cq) 2).toInt) hr.toInt n)) → (LNe s1 t1 20 (LN (fG (xC σ 24 cq) (hr.toInt - (σ (80 + cq) 2).toInt)) (hr.toInt - (σ (80 + cq) 2).toInt) hr.toInt n)) → (x3 = ahd (xC σ 24 cq) (hr.toInt - (σ (80 + cq) 2).toInt) n) → (Fr (fun k => 18 ≤ k ∧ k ≤ 20) σ s1) → ∀ (H : Heap) (locs : List Loc) (ls : Array Slot), RepH G s1 t1 H → va_S A s.heap H locs → lv_has ls 6 [(0, .ref (G.2.1 18)), (1, .ref (G.2.1 (80 + cq))), (2, .int hr), (3, .int x3), (4, .int t)] → W p l e (rmD 2) s m args below meth c H locs 0 0 (MQ below (va_Qq (po5_X2_lineOf G σ τ cq hr) (BU G) A) args s 0 0 A) (F0 m 25 ls []) := by
    intro F
    induction F with
    | zero => intro n x3 t s1 t1 hm; exact absurd hm (Nat.not_lt_zero _)
    | succ F ih_25 =>
      intro n x3 t s1 t1 hm_25 hi0_25 hi1_25 hi2_25 hi3_25 hi4_25 H locs ls hR hS hl
      refine lv_iload hC.x hC.b dX2_lineOf_25 (lv_at hl 4 rfl) ?_
      refine lv_iload_n hC.x hC.b dX2_lineOf_27 rfl (lv_at hl 2 rfl) ?_
      refine bi_ge (tgt := 102) (a := t.toInt) (b := hr.toInt) hC.x hC.b rfl rfl dX2_lineOf_28 (by decide) (fun c_20 => ?_) (fun c_20 => ?_)
      · skip
        refine lv_aload_n hC.x hC.b dX2_lineOf_102 rfl (lv_at hl 1 rfl) ?_
        refine rget hC hK hR (ct_clock hcq G _ _) rfl uin_X0 1 (by decide) TF_X2_68 rfl dX2_lineOf_103 ?_
        have rd_21 : (s1 (80 + cq) 1).toInt = (σ (80 + cq) 1).toInt := congrArg Int32.toInt (show s1 (80 + cq) 1 = σ (80 + cq) 1 from congrFun (hi4_25 (80 + cq) (by first | omega | (dsimp only; omega))) 1)
        refine lv_iconst (v := 2) hC.x hC.b dX2_lineOf_106 (by decide) ?_
        refine bi_ne (tgt := 131) (a := (s1 (80 + cq) 1).toInt) (b := 2) hC.x hC.b rfl rfl dX2_lineOf_107 (by decide) (fun c_22 => ?_) (fun c_22 => ?_)
        · skip
          refine lv_iconst (v := 0) hC.x hC.b dX2_lineOf_131 (by decide) ?_
          refine lv_istore (lv' := [(4, .int (0 : Int32)), (0, .ref (G.2.1 18)), (1, .ref (G.2.1 (80 + cq))), (2, .int hr), (3, .int x3)]) hC.x hC.b dX2_lineOf_132 hl (by decide) rfl (fun ls hl => ?_)
          refine lv_aload_n hC.x hC.b dX2_lineOf_134 rfl (lv_at hl 1 rfl) ?_
          refine lv_iload hC.x hC.b dX2_lineOf_135 (lv_at hl 0 rfl) ?_
          refine bz_eq (tgt := 145) (a := 0) (b := 0) hC.x hC.b rfl rfl dX2_lineOf_137 (by decide) (fun _ => ?_) (fun c_23 => absurd c_23 (by decide))
          refine lv_lconst (v := 0) hC.x hC.b dX2_lineOf_145 (by decide) ?_
          refine rputl hC hK hG hR hS (ct_fore G _ _) rfl uin_X2 tyX2 tyX2_ok nmX2 3 (by decide) TF_X2_21 rfl rfl (Nat.le_of_ble_eq_true rfl) rfl (ct_fore G _ _) dX2_lineOf_146 (fun t_25 es_24 H locs hR hS => ?_)
          refine lv_iload hC.x hC.b dX2_lineOf_149 (lv_at hl 0 rfl) ?_
          refine bz_eq (tgt := 161) (a := 0) (b := 0) hC.x hC.b rfl rfl dX2_lineOf_151 (by decide) (fun _ => ?_) (fun c_26 => absurd c_26 (by decide))
          refine lv_aload_n hC.x hC.b dX2_lineOf_161 rfl (lv_at hl 1 rfl) ?_
          refine rget hC hK hR (ct_fore G _ _) rfl uin_X2 1 (by decide) TF_X2_12 rfl dX2_lineOf_162 ?_
          exact reta hC hK hR hS (by first | exact Or.inl (⟨by subst es_24; (first | rfl | omega), by exact hi4_25, by subst es_24; ((try dsimp only); (have e9 : n = (σ (80 + cq) 2).toInt.toNat := by omega); subst e9; exact LF_x (LNe.u18 hi1_25 (by decide)) (bG_n hi2_25 (by omega) hi3_25 (by omega))), by subst es_24; ((try dsimp only); (have e9 : n = (σ (80 + cq) 2).toInt.toNat := by omega); subst e9; exact BF_x (bG_n hi2_25 (by omega) hi3_25 (by omega)) (by rw [up2_s]))⟩) | exact Or.inr ((⟨by subst es_24; (first | rfl | omega), by exact hi4_25, by subst es_24; ((try dsimp only); (have e9 : n = (σ (80 + cq) 2).toInt.toNat := by omega); subst e9; exact LF_g (LNe.u18 hi2_25 (by decide)) (bG_y hi2_25 (by omega) hi3_25 (by omega) (by omega) (by omega))), by subst es_24; ((try dsimp only); (have e9 : n = (σ (80 + cq) 2).toInt.toNat := by omega); subst e9; exact BF_g (bG_y hi2_25 (by omega) hi3_25 (by omega) (by omega) (by omega)) (by rw [up2_s, ← ahd_e (by omega) hi3_25]; exact i2lI rfl))⟩)) | exact False.elim (by omega)) dX2_lineOf_165
        · skip
          refine lv_aload_n hC.x hC.b dX2_lineOf_110 rfl (lv_at hl 0 rfl) ?_
          refine rget hC hK hR (ct_fore G _ _) rfl uin_X2 2 (by decide) TF_X2_18 rfl dX2_lineOf_111 ?_
          refine goip (runV (As := []) (rest := []) hC hK hR hl.1 (c_X3_count l hG s1 t1 20 (by decide) ) (call_b hC.ts TC_X3_count TN_X3 TM_X2_71 hd_X3_count ⟨Nat.le_of_ble_eq_true rfl, Nat.le_of_ble_eq_true rfl⟩) TI_X3_count TS_X3_count (ct_gains G _ _) rfl rfl rfl (Nat.le_of_ble_eq_true rfl) dX2_lineOf_114 ⟨Nat.le_of_ble_eq_true rfl, Nat.le_of_ble_eq_true rfl⟩) hS (fun v_27 H locs w_28 hR hS => ?_)
          subst w_28
          refine lv_iconst (v := 2) hC.x hC.b dX2_lineOf_117 (by decide) ?_
          refine bi_lt (tgt := 131) (a := (s1 20 0).toInt) (b := 2) hC.x hC.b rfl rfl dX2_lineOf_118 (by decide) (fun c_29 => ?_) (fun c_29 => ?_)
          · skip
            refine lv_iconst (v := 0) hC.x hC.b dX2_lineOf_131 (by decide) ?_
            refine lv_istore (lv' := [(4, .int (0 : Int32)), (0, .ref (G.2.1 18)), (1, .ref (G.2.1 (80 + cq))), (2, .int hr), (3, .int x3)]) hC.x hC.b dX2_lineOf_132 hl (by decide) rfl (fun ls hl => ?_)
            refine lv_aload_n hC.x hC.b dX2_lineOf_134 rfl (lv_at hl 1 rfl) ?_
            refine lv_iload hC.x hC.b dX2_lineOf_135 (lv_at hl 0 rfl) ?_
            refine bz_eq (tgt := 145) (a := 0) (b := 0) hC.x hC.b rfl rfl dX2_lineOf_137 (by decide) (fun _ => ?_) (fun c_30 => absurd c_30 (by decide))
            refine lv_lconst (v := 0) hC.x hC.b dX2_lineOf_145 (by decide) ?_
            refine rputl hC hK hG hR hS (ct_fore G _ _) rfl uin_X2 tyX2 tyX2_ok nmX2 3 (by decide) TF_X2_21 rfl rfl (Nat.le_of_ble_eq_true rfl) rfl (ct_fore G _ _) dX2_lineOf_146 (fun t_32 es_31 H locs hR hS => ?_)
            refine lv_iload hC.x hC.b dX2_lineOf_149 (lv_at hl 0 rfl) ?_
            refine bz_eq (tgt := 161) (a := 0) (b := 0) hC.x hC.b rfl rfl dX2_lineOf_151 (by decide) (fun _ => ?_) (fun c_33 => absurd c_33 (by decide))
            refine lv_aload_n hC.x hC.b dX2_lineOf_161 rfl (lv_at hl 1 rfl) ?_
            refine rget hC hK hR (ct_fore G _ _) rfl uin_X2 1 (by decide) TF_X2_12 rfl dX2_lineOf_162 ?_
            exact reta hC hK hR hS (by first | exact Or.inl (⟨by subst es_31; (first | rfl | omega), by exact hi4_25, by subst es_31; ((try dsimp only); (have e9 : n = (σ (80 + cq) 2).toInt.toNat := by omega); subst e9; exact LF_x (LNe.u18 hi1_25 (by decide)) (bG_n hi2_25 (by omega) hi3_25 (by omega))), by subst es_31; ((try dsimp only); (have e9 : n = (σ (80 + cq) 2).toInt.toNat := by omega); subst e9; exact BF_x (bG_n hi2_25 (by omega) hi3_25 (by omega)) (by rw [up2_s]))⟩) | exact Or.inr ((⟨by subst es_31; (first | rfl | omega), by exact hi4_25, by subst es_31; ((try dsimp only); (have e9 : n = (σ (80 + cq) 2).toInt.toNat := by omega); subst e9; exact LF_g (LNe.u18 hi2_25 (by decide)) (bG_y hi2_25 (by omega) hi3_25 (by omega) (by omega) (by omega))), by subst es_31; ((try dsimp only); (have e9 : n = (σ (80 + cq) 2).toInt.toNat := by omega); subst e9; exact BF_g (bG_y hi2_25 (by omega) hi3_25 (by omega) (by omega) (by omega)) (by rw [up2_s, ← ahd_e (by omega) hi3_25]; exact i2lI rfl))⟩)) | exact False.elim (by omega)) dX2_lineOf_165
          · skip
            refine lv_iload_n hC.x hC.b dX2_lineOf_121 rfl (lv_at hl 3 rfl) ?_
            refine lv_ldc hC.x hC.b hC.ow (hC.ts _ TK_X2_44) dX2_lineOf_122 ?_
            refine bi_eq (tgt := 131) (a := x3.toInt) (b := 2000000000) hC.x hC.b rfl rfl dX2_lineOf_124 (by decide) (fun c_34 => ?_) (fun c_34 => ?_)
            · skip
              refine lv_iconst (v := 0) hC.x hC.b dX2_lineOf_131 (by decide) ?_
              refine lv_istore (lv' := [(4, .int (0 : Int32)), (0, .ref (G.2.1 18)), (1, .ref (G.2.1 (80 + cq))), (2, .int hr), (3, .int x3)]) hC.x hC.b dX2_lineOf_132 hl (by decide) rfl (fun ls hl => ?_)
              refine lv_aload_n hC.x hC.b dX2_lineOf_134 rfl (lv_at hl 1 rfl) ?_
              refine lv_iload hC.x hC.b dX2_lineOf_135 (lv_at hl 0 rfl) ?_
              refine bz_eq (tgt := 145) (a := 0) (b := 0) hC.x hC.b rfl rfl dX2_lineOf_137 (by decide) (fun _ => ?_) (fun c_35 => absurd c_35 (by decide))
              refine lv_lconst (v := 0) hC.x hC.b dX2_lineOf_145 (by decide) ?_
              refine rputl hC hK hG hR hS (ct_fore G _ _) rfl uin_X2 tyX2 tyX2_ok nmX2 3 (by decide) TF_X2_21 rfl rfl (Nat.le_of_ble_eq_true rfl) rfl (ct_fore G _ _) dX2_lineOf_146 (fun t_37 es_36 H locs hR hS => ?_)
              refine lv_iload hC.x hC.b dX2_lineOf_149 (lv_at hl 0 rfl) ?_
              refine bz_eq (tgt := 161) (a := 0) (b := 0) hC.x hC.b rfl rfl dX2_lineOf_151 (by decide) (fun _ => ?_) (fun c_38 => absurd c_38 (by decide))
              refine lv_aload_n hC.x hC.b dX2_lineOf_161 rfl (lv_at hl 1 rfl) ?_
              refine rget hC hK hR (ct_fore G _ _) rfl uin_X2 1 (by decide) TF_X2_12 rfl dX2_lineOf_162 ?_
              exact reta hC hK hR hS (by first | exact Or.inl (⟨by subst es_36; (first | rfl | omega), by exact hi4_25, by subst es_36; ((try dsimp only); (have e9 : n = (σ (80 + cq) 2).toInt.toNat := by omega); subst e9; exact LF_x (LNe.u18 hi1_25 (by decide)) (bG_n hi2_25 (by omega) hi3_25 (by omega))), by subst es_36; ((try dsimp only); (have e9 : n = (σ (80 + cq) 2).toInt.toNat := by omega); subst e9; exact BF_x (bG_n hi2_25 (by omega) hi3_25 (by omega)) (by rw [up2_s]))⟩) | exact Or.inr ((⟨by subst es_36; (first | rfl | omega), by exact hi4_25, by subst es_36; ((try dsimp only); (have e9 : n = (σ (80 + cq) 2).toInt.toNat := by omega); subst e9; exact LF_g (LNe.u18 hi2_25 (by decide)) (bG_y hi2_25 (by omega) hi3_25 (by omega) (by omega) (by omega))), by subst es_36; ((try dsimp only); (have e9 : n = (σ (80 + cq) 2).toInt.toNat := by omega); subst e9; exact BF_g (bG_y hi2_25 (by omega) hi3_25 (by omega) (by omega) (by omega)) (by rw [up2_s, ← ahd_e (by omega) hi3_25]; exact i2lI rfl))⟩)) | exact False.elim (by omega)) dX2_lineOf_165
            · skip
              refine lv_iconst (v := 1) hC.x hC.b dX2_lineOf_127 (by decide) ?_
              refine lv_goto (tgt := 132) hC.x hC.b dX2_lineOf_128 (by decide) ?_
              refine lv_istore (lv' := [(4, .int (1 : Int32)), (0, .ref (G.2.1 18)), (1, .ref (G.2.1 (80 + cq))), (2, .int hr), (3, .int x3)]) hC.x hC.b dX2_lineOf_132 hl (by decide) rfl (fun ls hl => ?_)
              refine lv_aload_n hC.x hC.b dX2_lineOf_134 rfl (lv_at hl 1 rfl) ?_
              refine lv_iload hC.x hC.b dX2_lineOf_135 (lv_at hl 0 rfl) ?_
              refine bz_eq (tgt := 145) (a := 1) (b := 0) hC.x hC.b rfl rfl dX2_lineOf_137 (by decide) (fun c_39 => absurd c_39 (by decide)) (fun _ => ?_)
              refine lv_iload_n hC.x hC.b dX2_lineOf_140 rfl (lv_at hl 4 rfl) ?_
              refine lv_i2l hC.x hC.b dX2_lineOf_141 rfl ?_
              refine lv_goto (tgt := 146) hC.x hC.b dX2_lineOf_142 (by decide) ?_
              refine rputl hC hK hG hR hS (ct_fore G _ _) rfl uin_X2 tyX2 tyX2_ok nmX2 3 (by decide) TF_X2_21 rfl rfl (Nat.le_of_ble_eq_true rfl) rfl (ct_fore G _ _) dX2_lineOf_146 (fun t_41 es_40 H locs hR hS => ?_)
              refine lv_iload hC.x hC.b dX2_lineOf_149 (lv_at hl 0 rfl) ?_
              refine bz_eq (tgt := 161) (a := 1) (b := 0) hC.x hC.b rfl rfl dX2_lineOf_151 (by decide) (fun c_42 => absurd c_42 (by decide)) (fun _ => ?_)
              refine lv_aload_n hC.x hC.b dX2_lineOf_154 rfl (lv_at hl 1 rfl) ?_
              refine rget hC hK hR (ct_fore G _ _) rfl uin_X2 2 (by decide) TF_X2_18 rfl dX2_lineOf_155 ?_
              refine lv_goto (tgt := 165) hC.x hC.b dX2_lineOf_158 (by decide) ?_
              exact reta hC hK hR hS (by first | exact Or.inl (⟨by subst es_40; (first | rfl | omega), by exact hi4_25, by subst es_40; ((try dsimp only); (have e9 : n = (σ (80 + cq) 2).toInt.toNat := by omega); subst e9; exact LF_x (LNe.u18 hi1_25 (by decide)) (bG_n hi2_25 (by omega) hi3_25 (by omega))), by subst es_40; ((try dsimp only); (have e9 : n = (σ (80 + cq) 2).toInt.toNat := by omega); subst e9; exact BF_x (bG_n hi2_25 (by omega) hi3_25 (by omega)) (by rw [up2_s]))⟩) | exact Or.inr ((⟨by subst es_40; (first | rfl | omega), by exact hi4_25, by subst es_40; ((try dsimp only); (have e9 : n = (σ (80 + cq) 2).toInt.toNat := by omega); subst e9; exact LF_g (LNe.u18 hi2_25 (by decide)) (bG_y hi2_25 (by omega) hi3_25 (by omega) (by omega) (by omega))), by subst es_40; ((try dsimp only); (have e9 : n = (σ (80 + cq) 2).toInt.toNat := by omega); subst e9; exact BF_g (bG_y hi2_25 (by omega) hi3_25 (by omega) (by omega) (by omega)) (by rw [up2_s, ← ahd_e (by omega) hi3_25]; exact i2lI rfl))⟩)) | exact False.elim (by omega)) dX2_lineOf_165
      · skip
        refine lv_aload_n hC.x hC.b dX2_lineOf_31 rfl (lv_at hl 0 rfl) ?_
        refine lv_aload_n hC.x hC.b dX2_lineOf_32 rfl (lv_at hl 1 rfl) ?_
        refine lv_iload hC.x hC.b dX2_lineOf_33 (lv_at hl 4 rfl) ?_
        refine goip (runV (As := [.ref (G.2.1 (80 + cq)), .int t]) (rest := []) hC hK hR hl.1 (c5_X2_xOf l hG s1 t1 cq hcq t ) (call_b hC.ts TC_X2_xOf TN_X2 TM_X2_54 hd_X2_xOf ⟨Nat.le_of_ble_eq_true rfl, Nat.le_of_ble_eq_true rfl⟩) TI_X2_xOf TS_X2_xOf (ct_fore G _ _) rfl rfl rfl (Nat.le_of_ble_eq_true rfl) dX2_lineOf_35 ⟨Nat.le_of_ble_eq_true rfl, Nat.le_of_ble_eq_true rfl⟩) hS (fun v_43 H locs w_44 hR hS => ?_)
        subst w_44
        rw [show (xC s1 24 cq t.toInt) = (xC σ 24 cq t.toInt) from congrFun (xC_f hi4_25 (by omega)) _]
        refine lv_topi (fun x_45 ex_46 => ?_)
        refine lv_istore (lv' := [(5, .int x_45), (0, .ref (G.2.1 18)), (1, .ref (G.2.1 (80 + cq))), (2, .int hr), (3, .int x3), (4, .int t)]) hC.x hC.b dX2_lineOf_38 hl (by decide) rfl (fun ls hl => ?_)
        refine lv_iload hC.x hC.b dX2_lineOf_40 (lv_at hl 0 rfl) ?_
        refine lv_ldc hC.x hC.b hC.ow (hC.ts _ TK_X2_44) dX2_lineOf_42 ?_
        refine bi_eq (tgt := 62) (a := x_45.toInt) (b := 2000000000) hC.x hC.b rfl rfl dX2_lineOf_44 (by decide) (fun c_47 => ?_) (fun c_47 => ?_)
        · skip
          refine lv_iload hC.x hC.b dX2_lineOf_62 (lv_at hl 0 rfl) ?_
          refine lv_ldc hC.x hC.b hC.ow (hC.ts _ TK_X2_44) dX2_lineOf_64 ?_
          refine bi_eq (tgt := 93) (a := x_45.toInt) (b := 2000000000) hC.x hC.b rfl rfl dX2_lineOf_66 (by decide) (fun c_48 => ?_) (fun c_48 => ?_)
          · skip
            refine lv_iload hC.x hC.b dX2_lineOf_93 (lv_at hl 0 rfl) ?_
            refine lv_istore_n (lv' := [(3, .int x_45), (5, .int x_45), (0, .ref (G.2.1 18)), (1, .ref (G.2.1 (80 + cq))), (2, .int hr), (4, .int t)]) hC.x hC.b dX2_lineOf_95 rfl hl (by decide) rfl (fun ls hl => ?_)
            obtain ⟨x_49, ex_50⟩ : ∃ y : Int32, y = t + 1 := ⟨_, rfl⟩
            have pr_51 : x_49.toInt = t.toInt + (1) := by rw [ex_50]; exact addI rfl rfl (by omega) (by omega)
            refine lv_iinc (v := x_49) (lv' := [(4, .int x_49), (3, .int x_45), (5, .int x_45), (0, .ref (G.2.1 18)), (1, .ref (G.2.1 (80 + cq))), (2, .int hr)]) hC.x hC.b dX2_lineOf_96 hl (k := 5) rfl ex_50.symm (by decide) rfl (fun ls hl => ?_)
            refine lv_goto (tgt := 25) hC.x hC.b dX2_lineOf_99 (by decide) ?_
            exact ih_25 (n + 1) x_45 x_49 s1 t1 (by omega) (by first | omega | assumption) (by first | exact LE1_n hi1_25 hi0_25.1 (by assumption) (by assumption) | exact LE1_s hi1_25 (by assumption) hi0_25.1 (by omega) (by omega) (by assumption) (by assumption) | exact LNe.kp (by assumption) (LE1_s hi1_25 (by assumption) hi0_25.1 (by omega) (by omega) (by assumption) (by assumption)) (by decide) | (exfalso; omega)) (by first | exact LE2_n hi2_25 hi0_25.1 (by assumption) hi3_25 (by omega) | exact LE2_n (LNe.kp (by assumption) hi2_25 (by decide)) hi0_25.1 (by assumption) hi3_25 (by omega) | exact LE2_s (LNe.kp (by assumption) hi2_25 (by decide)) (by assumption) hi0_25.1 (by omega) (by omega) (by assumption) hi3_25 (by assumption) (by assumption) | (exfalso; omega)) (by first | exact ahd_s hi0_25.1 (by assumption) | (exfalso; omega)) hi4_25 _ _ _ hR hS (lv_sub hl [3, 4, 5, 1, 0] rfl)
          · skip
            refine lv_iload_n hC.x hC.b dX2_lineOf_69 rfl (lv_at hl 4 rfl) ?_
            refine lv_ldc hC.x hC.b hC.ow (hC.ts _ TK_X2_44) dX2_lineOf_70 ?_
            refine bi_eq (tgt := 93) (a := x3.toInt) (b := 2000000000) hC.x hC.b rfl rfl dX2_lineOf_72 (by decide) (fun c_52 => ?_) (fun c_52 => ?_)
            · skip
              refine lv_iload hC.x hC.b dX2_lineOf_93 (lv_at hl 0 rfl) ?_
              refine lv_istore_n (lv' := [(3, .int x_45), (5, .int x_45), (0, .ref (G.2.1 18)), (1, .ref (G.2.1 (80 + cq))), (2, .int hr), (4, .int t)]) hC.x hC.b dX2_lineOf_95 rfl hl (by decide) rfl (fun ls hl => ?_)
              obtain ⟨x_53, ex_54⟩ : ∃ y : Int32, y = t + 1 := ⟨_, rfl⟩
              have pr_55 : x_53.toInt = t.toInt + (1) := by rw [ex_54]; exact addI rfl rfl (by omega) (by omega)
              refine lv_iinc (v := x_53) (lv' := [(4, .int x_53), (3, .int x_45), (5, .int x_45), (0, .ref (G.2.1 18)), (1, .ref (G.2.1 (80 + cq))), (2, .int hr)]) hC.x hC.b dX2_lineOf_96 hl (k := 5) rfl ex_54.symm (by decide) rfl (fun ls hl => ?_)
              refine lv_goto (tgt := 25) hC.x hC.b dX2_lineOf_99 (by decide) ?_
              exact ih_25 (n + 1) x_45 x_53 s1 t1 (by omega) (by first | omega | assumption) (by first | exact LE1_n hi1_25 hi0_25.1 (by assumption) (by assumption) | exact LE1_s hi1_25 (by assumption) hi0_25.1 (by omega) (by omega) (by assumption) (by assumption) | exact LNe.kp (by assumption) (LE1_s hi1_25 (by assumption) hi0_25.1 (by omega) (by omega) (by assumption) (by assumption)) (by decide) | (exfalso; omega)) (by first | exact LE2_n hi2_25 hi0_25.1 (by assumption) hi3_25 (by omega) | exact LE2_n (LNe.kp (by assumption) hi2_25 (by decide)) hi0_25.1 (by assumption) hi3_25 (by omega) | exact LE2_s (LNe.kp (by assumption) hi2_25 (by decide)) (by assumption) hi0_25.1 (by omega) (by omega) (by assumption) hi3_25 (by assumption) (by assumption) | (exfalso; omega)) (by first | exact ahd_s hi0_25.1 (by assumption) | (exfalso; omega)) hi4_25 _ _ _ hR hS (lv_sub hl [3, 4, 5, 1, 0] rfl)
            · skip
              refine lv_aload_n hC.x hC.b dX2_lineOf_75 rfl (lv_at hl 1 rfl) ?_
              refine rget hC hK hR (ct_fore G _ _) rfl uin_X2 2 (by decide) TF_X2_18 rfl dX2_lineOf_76 ?_
              refine lv_iload hC.x hC.b dX2_lineOf_79 (lv_at hl 5 rfl) ?_
              refine lv_iload_n hC.x hC.b dX2_lineOf_81 rfl (lv_at hl 3 rfl) ?_
              refine lv_isub hC.x hC.b dX2_lineOf_82 ?_
              have pr_56 : (t - hr).toInt = (t.toInt - hr.toInt) := subI rfl rfl (by omega) (by omega)
              refine lv_i2l hC.x hC.b dX2_lineOf_83 rfl ?_
              refine lv_iload hC.x hC.b dX2_lineOf_84 (lv_at hl 0 rfl) ?_
              refine lv_i2l hC.x hC.b dX2_lineOf_86 rfl ?_
              refine lv_iload_n hC.x hC.b dX2_lineOf_87 rfl (lv_at hl 4 rfl) ?_
              refine lv_i2l hC.x hC.b dX2_lineOf_88 rfl ?_
              refine lv_lsub hC.x hC.b dX2_lineOf_89 ?_
              have av_57 : ((t - hr).toInt64).toInt = (t.toInt - hr.toInt) := (i2lI pr_56)
              refine gov (runV (As := [.long ((t - hr).toInt64), .long (x_45.toInt64 - x3.toInt64)]) (rest := []) hC hK hR hl.1 (c5_X3_add l hG s1 t1 20 (by decide) ((t - hr).toInt64) (x_45.toInt64 - x3.toInt64) ) (call_b hC.ts TC_X3_add TN_X3 TM_X2_64 hd_X3_add ⟨Nat.le_of_ble_eq_true rfl, Nat.le_of_ble_eq_true rfl⟩) TI_X3_add TS_X3_add (ct_gains G _ _) rfl rfl rfl (Nat.le_of_ble_eq_true rfl) dX2_lineOf_90 ⟨Nat.le_of_ble_eq_true rfl, Nat.le_of_ble_eq_true rfl⟩) hS (fun s_60 t_61 H locs w_59 hR hS => ?_)
              try dsimp only [po5_X3_add] at w_59
              obtain ⟨f_62, f_63, f_64⟩ := w_59
              refine lv_iload hC.x hC.b dX2_lineOf_93 (lv_at hl 0 rfl) ?_
              refine lv_istore_n (lv' := [(3, .int x_45), (5, .int x_45), (0, .ref (G.2.1 18)), (1, .ref (G.2.1 (80 + cq))), (2, .int hr), (4, .int t)]) hC.x hC.b dX2_lineOf_95 rfl hl (by decide) rfl (fun ls hl => ?_)
              obtain ⟨x_65, ex_66⟩ : ∃ y : Int32, y = t + 1 := ⟨_, rfl⟩
              have pr_67 : x_65.toInt = t.toInt + (1) := by rw [ex_66]; exact addI rfl rfl (by omega) (by omega)
              refine lv_iinc (v := x_65) (lv' := [(4, .int x_65), (3, .int x_45), (5, .int x_45), (0, .ref (G.2.1 18)), (1, .ref (G.2.1 (80 + cq))), (2, .int hr)]) hC.x hC.b dX2_lineOf_96 hl (k := 5) rfl ex_66.symm (by decide) rfl (fun ls hl => ?_)
              refine lv_goto (tgt := 25) hC.x hC.b dX2_lineOf_99 (by decide) ?_
              exact ih_25 (n + 1) x_45 x_65 s_60 t_61 (by omega) (by first | omega | assumption) (by first | exact LE1_n hi1_25 hi0_25.1 (by assumption) (by assumption) | exact LE1_s hi1_25 (by assumption) hi0_25.1 (by omega) (by omega) (by assumption) (by assumption) | exact LNe.kp (by assumption) (LE1_s hi1_25 (by assumption) hi0_25.1 (by omega) (by omega) (by assumption) (by assumption)) (by decide) | (exfalso; omega)) (by first | exact LE2_n hi2_25 hi0_25.1 (by assumption) hi3_25 (by omega) | exact LE2_n (LNe.kp (by assumption) hi2_25 (by decide)) hi0_25.1 (by assumption) hi3_25 (by omega) | exact LE2_s (LNe.kp (by assumption) hi2_25 (by decide)) (by assumption) hi0_25.1 (by omega) (by omega) (by assumption) hi3_25 (by assumption) (by assumption) | (exfalso; omega)) (by first | exact ahd_s hi0_25.1 (by assumption) | (exfalso; omega)) (Fr.tr hi4_25 f_62) _ _ _ hR hS (lv_sub hl [3, 4, 5, 1, 0] rfl)
        · skip
          refine lv_aload_n hC.x hC.b dX2_lineOf_47 rfl (lv_at hl 1 rfl) ?_
          refine rget hC hK hR (ct_fore G _ _) rfl uin_X2 1 (by decide) TF_X2_12 rfl dX2_lineOf_48 ?_
          refine lv_iload hC.x hC.b dX2_lineOf_51 (lv_at hl 5 rfl) ?_
          refine lv_iload_n hC.x hC.b dX2_lineOf_53 rfl (lv_at hl 3 rfl) ?_
          refine lv_isub hC.x hC.b dX2_lineOf_54 ?_
          have pr_68 : (t - hr).toInt = (t.toInt - hr.toInt) := subI rfl rfl (by omega) (by omega)
          refine lv_i2l hC.x hC.b dX2_lineOf_55 rfl ?_
          refine lv_iload hC.x hC.b dX2_lineOf_56 (lv_at hl 0 rfl) ?_
          refine lv_i2l hC.x hC.b dX2_lineOf_58 rfl ?_
          have av_69 : ((t - hr).toInt64).toInt = (t.toInt - hr.toInt) := (i2lI pr_68)
          have av_70 : x_45.toInt64.toInt = x_45.toInt := (i2lI rfl)
          refine gov (runV (As := [.long ((t - hr).toInt64), .long x_45.toInt64]) (rest := []) hC hK hR hl.1 (c5_X3_add l hG s1 t1 19 (by decide) ((t - hr).toInt64) x_45.toInt64 ) (call_b hC.ts TC_X3_add TN_X3 TM_X2_64 hd_X3_add ⟨Nat.le_of_ble_eq_true rfl, Nat.le_of_ble_eq_true rfl⟩) TI_X3_add TS_X3_add (ct_xs G _ _) rfl rfl rfl (Nat.le_of_ble_eq_true rfl) dX2_lineOf_59 ⟨Nat.le_of_ble_eq_true rfl, Nat.le_of_ble_eq_true rfl⟩) hS (fun s_73 t_74 H locs w_72 hR hS => ?_)
          try dsimp only [po5_X3_add] at w_72
          obtain ⟨f_75, f_76, f_77⟩ := w_72
          refine lv_iload hC.x hC.b dX2_lineOf_62 (lv_at hl 0 rfl) ?_
          refine lv_ldc hC.x hC.b hC.ow (hC.ts _ TK_X2_44) dX2_lineOf_64 ?_
          refine bi_eq (tgt := 93) (a := x_45.toInt) (b := 2000000000) hC.x hC.b rfl rfl dX2_lineOf_66 (by decide) (fun c_78 => ?_) (fun c_78 => ?_)
          · skip
            refine lv_iload hC.x hC.b dX2_lineOf_93 (lv_at hl 0 rfl) ?_
            refine lv_istore_n (lv' := [(3, .int x_45), (5, .int x_45), (0, .ref (G.2.1 18)), (1, .ref (G.2.1 (80 + cq))), (2, .int hr), (4, .int t)]) hC.x hC.b dX2_lineOf_95 rfl hl (by decide) rfl (fun ls hl => ?_)
            obtain ⟨x_79, ex_80⟩ : ∃ y : Int32, y = t + 1 := ⟨_, rfl⟩
            have pr_81 : x_79.toInt = t.toInt + (1) := by rw [ex_80]; exact addI rfl rfl (by omega) (by omega)
            refine lv_iinc (v := x_79) (lv' := [(4, .int x_79), (3, .int x_45), (5, .int x_45), (0, .ref (G.2.1 18)), (1, .ref (G.2.1 (80 + cq))), (2, .int hr)]) hC.x hC.b dX2_lineOf_96 hl (k := 5) rfl ex_80.symm (by decide) rfl (fun ls hl => ?_)
            refine lv_goto (tgt := 25) hC.x hC.b dX2_lineOf_99 (by decide) ?_
            exact ih_25 (n + 1) x_45 x_79 s_73 t_74 (by omega) (by first | omega | assumption) (by first | exact LE1_n hi1_25 hi0_25.1 (by assumption) (by assumption) | exact LE1_s hi1_25 (by assumption) hi0_25.1 (by omega) (by omega) (by assumption) (by assumption) | exact LNe.kp (by assumption) (LE1_s hi1_25 (by assumption) hi0_25.1 (by omega) (by omega) (by assumption) (by assumption)) (by decide) | (exfalso; omega)) (by first | exact LE2_n hi2_25 hi0_25.1 (by assumption) hi3_25 (by omega) | exact LE2_n (LNe.kp (by assumption) hi2_25 (by decide)) hi0_25.1 (by assumption) hi3_25 (by omega) | exact LE2_s (LNe.kp (by assumption) hi2_25 (by decide)) (by assumption) hi0_25.1 (by omega) (by omega) (by assumption) hi3_25 (by assumption) (by assumption) | (exfalso; omega)) (by first | exact ahd_s hi0_25.1 (by assumption) | (exfalso; omega)) (Fr.tr hi4_25 f_75) _ _ _ hR hS (lv_sub hl [3, 4, 5, 1, 0] rfl)
          · skip
            refine lv_iload_n hC.x hC.b dX2_lineOf_69 rfl (lv_at hl 4 rfl) ?_
            refine lv_ldc hC.x hC.b hC.ow (hC.ts _ TK_X2_44) dX2_lineOf_70 ?_
            refine bi_eq (tgt := 93) (a := x3.toInt) (b := 2000000000) hC.x hC.b rfl rfl dX2_lineOf_72 (by decide) (fun c_82 => ?_) (fun c_82 => ?_)
            · skip
              refine lv_iload hC.x hC.b dX2_lineOf_93 (lv_at hl 0 rfl) ?_
              refine lv_istore_n (lv' := [(3, .int x_45), (5, .int x_45), (0, .ref (G.2.1 18)), (1, .ref (G.2.1 (80 + cq))), (2, .int hr), (4, .int t)]) hC.x hC.b dX2_lineOf_95 rfl hl (by decide) rfl (fun ls hl => ?_)
              obtain ⟨x_83, ex_84⟩ : ∃ y : Int32, y = t + 1 := ⟨_, rfl⟩
              have pr_85 : x_83.toInt = t.toInt + (1) := by rw [ex_84]; exact addI rfl rfl (by omega) (by omega)
              refine lv_iinc (v := x_83) (lv' := [(4, .int x_83), (3, .int x_45), (5, .int x_45), (0, .ref (G.2.1 18)), (1, .ref (G.2.1 (80 + cq))), (2, .int hr)]) hC.x hC.b dX2_lineOf_96 hl (k := 5) rfl ex_84.symm (by decide) rfl (fun ls hl => ?_)
              refine lv_goto (tgt := 25) hC.x hC.b dX2_lineOf_99 (by decide) ?_
              exact ih_25 (n + 1) x_45 x_83 s_73 t_74 (by omega) (by first | omega | assumption) (by first | exact LE1_n hi1_25 hi0_25.1 (by assumption) (by assumption) | exact LE1_s hi1_25 (by assumption) hi0_25.1 (by omega) (by omega) (by assumption) (by assumption) | exact LNe.kp (by assumption) (LE1_s hi1_25 (by assumption) hi0_25.1 (by omega) (by omega) (by assumption) (by assumption)) (by decide) | (exfalso; omega)) (by first | exact LE2_n hi2_25 hi0_25.1 (by assumption) hi3_25 (by omega) | exact LE2_n (LNe.kp (by assumption) hi2_25 (by decide)) hi0_25.1 (by assumption) hi3_25 (by omega) | exact LE2_s (LNe.kp (by assumption) hi2_25 (by decide)) (by assumption) hi0_25.1 (by omega) (by omega) (by assumption) hi3_25 (by assumption) (by assumption) | (exfalso; omega)) (by first | exact ahd_s hi0_25.1 (by assumption) | (exfalso; omega)) (Fr.tr hi4_25 f_75) _ _ _ hR hS (lv_sub hl [3, 4, 5, 1, 0] rfl)
            · skip
              refine lv_aload_n hC.x hC.b dX2_lineOf_75 rfl (lv_at hl 1 rfl) ?_
              refine rget hC hK hR (ct_fore G _ _) rfl uin_X2 2 (by decide) TF_X2_18 rfl dX2_lineOf_76 ?_
              refine lv_iload hC.x hC.b dX2_lineOf_79 (lv_at hl 5 rfl) ?_
              refine lv_iload_n hC.x hC.b dX2_lineOf_81 rfl (lv_at hl 3 rfl) ?_
              refine lv_isub hC.x hC.b dX2_lineOf_82 ?_
              have pr_86 : (t - hr).toInt = (t.toInt - hr.toInt) := subI rfl rfl (by omega) (by omega)
              refine lv_i2l hC.x hC.b dX2_lineOf_83 rfl ?_
              refine lv_iload hC.x hC.b dX2_lineOf_84 (lv_at hl 0 rfl) ?_
              refine lv_i2l hC.x hC.b dX2_lineOf_86 rfl ?_
              refine lv_iload_n hC.x hC.b dX2_lineOf_87 rfl (lv_at hl 4 rfl) ?_
              refine lv_i2l hC.x hC.b dX2_lineOf_88 rfl ?_
              refine lv_lsub hC.x hC.b dX2_lineOf_89 ?_
              have av_87 : ((t - hr).toInt64).toInt = (t.toInt - hr.toInt) := (i2lI pr_86)
              refine gov (runV (As := [.long ((t - hr).toInt64), .long (x_45.toInt64 - x3.toInt64)]) (rest := []) hC hK hR hl.1 (c5_X3_add l hG s_73 t_74 20 (by decide) ((t - hr).toInt64) (x_45.toInt64 - x3.toInt64) ) (call_b hC.ts TC_X3_add TN_X3 TM_X2_64 hd_X3_add ⟨Nat.le_of_ble_eq_true rfl, Nat.le_of_ble_eq_true rfl⟩) TI_X3_add TS_X3_add (ct_gains G _ _) rfl rfl rfl (Nat.le_of_ble_eq_true rfl) dX2_lineOf_90 ⟨Nat.le_of_ble_eq_true rfl, Nat.le_of_ble_eq_true rfl⟩) hS (fun s_90 t_91 H locs w_89 hR hS => ?_)
              try dsimp only [po5_X3_add] at w_89
              obtain ⟨f_92, f_93, f_94⟩ := w_89
              refine lv_iload hC.x hC.b dX2_lineOf_93 (lv_at hl 0 rfl) ?_
              refine lv_istore_n (lv' := [(3, .int x_45), (5, .int x_45), (0, .ref (G.2.1 18)), (1, .ref (G.2.1 (80 + cq))), (2, .int hr), (4, .int t)]) hC.x hC.b dX2_lineOf_95 rfl hl (by decide) rfl (fun ls hl => ?_)
              obtain ⟨x_95, ex_96⟩ : ∃ y : Int32, y = t + 1 := ⟨_, rfl⟩
              have pr_97 : x_95.toInt = t.toInt + (1) := by rw [ex_96]; exact addI rfl rfl (by omega) (by omega)
              refine lv_iinc (v := x_95) (lv' := [(4, .int x_95), (3, .int x_45), (5, .int x_45), (0, .ref (G.2.1 18)), (1, .ref (G.2.1 (80 + cq))), (2, .int hr)]) hC.x hC.b dX2_lineOf_96 hl (k := 5) rfl ex_96.symm (by decide) rfl (fun ls hl => ?_)
              refine lv_goto (tgt := 25) hC.x hC.b dX2_lineOf_99 (by decide) ?_
              exact ih_25 (n + 1) x_45 x_95 s_90 t_91 (by omega) (by first | omega | assumption) (by first | exact LE1_n hi1_25 hi0_25.1 (by assumption) (by assumption) | exact LE1_s hi1_25 (by assumption) hi0_25.1 (by omega) (by omega) (by assumption) (by assumption) | exact LNe.kp (by assumption) (LE1_s hi1_25 (by assumption) hi0_25.1 (by omega) (by omega) (by assumption) (by assumption)) (by decide) | (exfalso; omega)) (by first | exact LE2_n hi2_25 hi0_25.1 (by assumption) hi3_25 (by omega) | exact LE2_n (LNe.kp (by assumption) hi2_25 (by decide)) hi0_25.1 (by assumption) hi3_25 (by omega) | exact LE2_s (LNe.kp (by assumption) hi2_25 (by decide)) (by assumption) hi0_25.1 (by omega) (by omega) (by assumption) hi3_25 (by assumption) (by assumption) | (exfalso; omega)) (by first | exact ahd_s hi0_25.1 (by assumption) | (exfalso; omega)) (Fr.tr (Fr.tr hi4_25 f_75) f_92) _ _ _ hR hS (lv_sub hl [3, 4, 5, 1, 0] rfl)
  exact L_25 _ 0 (2000000000 : Int32) x_17 s_10 t_11 (Nat.lt_succ_self _) (by omega) (by exact LNe.z0 (LNe.kp (by assumption) (by assumption) (by decide))) (by exact LNe.z0 (by assumption)) (by rfl) (Fr.tr (Fr.tr Fr.rf f_5) f_12) _ _ _ hR hS (lv_sub hl [2, 3, 4, 1, 0] rfl)

abbrev po5_X2_foretoldOf (σ : SI) (τ : SL) (cq : Nat) (hr : Int32) : Int32 → SI × SL → Prop := fun v u => ((v = (FT (xC σ 24 cq) (σ (80 + cq) 2).toInt hr.toInt (σ (80 + cq) 1).toInt)) ∧ (Fr (fun k => 18 ≤ k ∧ k ≤ 20) σ u.1))
set_option maxRecDepth 100000 in
set_option maxHeartbeats 4000000 in
theorem c5_X2_foretoldOf (l : Launch) {G : Gx} {A : Nat → Prop} (hG : GOk G A) (σ : SI) (τ : SL) (cq : Nat) (hcq : cq < 24) (hr : Int32) (hhr : 0 ≤ hr.toInt ∧ hr.toInt ≤ 200) (hkq : KQ6 σ cq hr) : MI l G A 3 yX2_foretoldOf cX2_foretoldOf 4 (some .int) [.ref (G.2.1 18), .ref (G.2.1 (80 + cq)), .int hr] (σ, τ) (po5_X2_foretoldOf σ τ cq hr) := by
  refine met_of (own := RX2) (by decide +kernel) rfl [(0, .ref (G.2.1 18)), (1, .ref (G.2.1 (80 + cq))), (2, .int hr)] rfl (Nat.le_of_ble_eq_true rfl) ?_
  intro p e s m args below meth c ls hC hK hR hl
  have hS : va_S A s.heap s.heap [] := va_S.rf
  obtain ⟨hk1, hk2, hk3, hkx, hkm⟩ := id hkq
  refine lv_aload_n hC.x hC.b dX2_foretoldOf_0 rfl (lv_at hl 0 rfl) ?_
  refine lv_aload_n hC.x hC.b dX2_foretoldOf_1 rfl (lv_at hl 1 rfl) ?_
  refine lv_iload_n hC.x hC.b dX2_foretoldOf_2 rfl (lv_at hl 2 rfl) ?_
  refine goq (runV (As := [.ref (G.2.1 (80 + cq)), .int hr]) (rest := []) hC hK hR hl.1 (c5_X2_lineOf l hG σ τ cq hcq hr (by first | omega | assumption) (by first | exact hkq | exact KQ6.f hkq Fr.rf)) (call_b hC.ts TC_X2_lineOf TN_X2 TM_X2_75 hd_X2_lineOf ⟨Nat.le_of_ble_eq_true rfl, Nat.le_of_ble_eq_true rfl⟩) TI_X2_lineOf TS_X2_lineOf (ct_fore G _ _) rfl rfl rfl (Nat.le_of_ble_eq_true rfl) dX2_foretoldOf_3 ⟨Nat.le_of_ble_eq_true rfl, Nat.le_of_ble_eq_true rfl⟩) hS (fun v_1 s_3 t_4 H locs w_2 hR hS => ?_)
  try dsimp only [po5_X2_lineOf] at w_2
  rcases w_2 with ⟨rfl, f_5, f_6, f_7⟩ | ⟨rfl, f_8, f_9, f_10⟩
  · skip
    refine lv_astore_n (lv' := [(3, .ref (G.2.1 19)), (0, .ref (G.2.1 18)), (1, .ref (G.2.1 (80 + cq))), (2, .int hr)]) hC.x hC.b dX2_foretoldOf_6 rfl hl (by decide) rfl (fun ls hl => ?_)
    refine lv_aload_n hC.x hC.b dX2_foretoldOf_7 rfl (lv_at hl 0 rfl) ?_
    refine goip (runV (As := []) (rest := []) hC hK hR hl.1 (c_X3_count l hG s_3 t_4 19 (by decide) ) (call_b hC.ts TC_X3_count TN_X3 TM_X2_71 hd_X3_count ⟨Nat.le_of_ble_eq_true rfl, Nat.le_of_ble_eq_true rfl⟩) TI_X3_count TS_X3_count (ct_xs G _ _) rfl rfl rfl (Nat.le_of_ble_eq_true rfl) dX2_foretoldOf_8 ⟨Nat.le_of_ble_eq_true rfl, Nat.le_of_ble_eq_true rfl⟩) hS (fun v_11 H locs w_12 hR hS => ?_)
    subst w_12
    refine bz_ne (tgt := 19) (a := (s_3 19 0).toInt) (b := 0) hC.x hC.b rfl rfl dX2_foretoldOf_11 (by decide) (fun c_13 => ?_) (fun c_13 => ?_)
    · skip
      refine lv_aload_n hC.x hC.b dX2_foretoldOf_19 rfl (lv_at hl 1 rfl) ?_
      refine rget hC hK hR (ct_fore G _ _) rfl uin_X2 3 (by decide) TF_X2_21 rfl dX2_foretoldOf_20 ?_
      refine lv_aload_n hC.x hC.b dX2_foretoldOf_23 rfl (lv_at hl 0 rfl) ?_
      refine golp (runV (As := []) (rest := [.long (t_4 18 3)]) hC hK hR hl.1 (c5_X3_valueAtZero l hG s_3 t_4 19 (by decide) ) (call_b hC.ts TC_X3_valueAtZero TN_X3 TM_X2_79 hd_X3_valueAtZero ⟨Nat.le_of_ble_eq_true rfl, Nat.le_of_ble_eq_true rfl⟩) TI_X3_valueAtZero TS_X3_valueAtZero (ct_xs G _ _) rfl rfl rfl (Nat.le_of_ble_eq_true rfl) dX2_foretoldOf_24 ⟨Nat.le_of_ble_eq_true rfl, Nat.le_of_ble_eq_true rfl⟩) hS (fun v_14 H locs w_15 hR hS => ?_)
      have f_16 := w_15
      refine lv_ladd hC.x hC.b dX2_foretoldOf_27 ?_
      refine lv_ldc hC.x hC.b hC.ow (hC.ts _ TK_X2_83) dX2_foretoldOf_28 ?_
      have av_17 : (1000000000 : Int32).toInt = 1000000000 := by decide
      refine goip (runSN (As := [.long ((t_4 18 3) + v_14), .int (1000000000 : Int32)]) (rest := []) hC hK hR hl.1 (c_X9_cut l hG s_3 t_4 ((t_4 18 3) + v_14) (1000000000 : Int32) (by first | decide | omega)) (call_n hC.ts TC_X9_cut TN_X9 hK.2.2.2.2.2.2.1 hd_X9_cut ⟨Nat.le_of_ble_eq_true rfl, Nat.le_of_ble_eq_true rfl⟩) TT_X9_cut rfl rfl (Nat.le_of_ble_eq_true rfl) dX2_foretoldOf_30 ⟨Nat.le_of_ble_eq_true rfl, Nat.le_of_ble_eq_true rfl⟩) hS (fun v_18 H locs w_19 hR hS => ?_)
      have f_20 := w_19
      exact reti hC hK hR hS (⟨by first | exact ft_0 (by assumption) (by assumption) | exact ft_v hkx hk1 (by assumption) (by assumption) (by assumption) (by assumption) (by assumption), by exact (Fr.tr Fr.rf f_5)⟩) dX2_foretoldOf_33
    · skip
      refine lv_ldc hC.x hC.b hC.ow (hC.ts _ TK_X2_44) dX2_foretoldOf_14 ?_
      refine lv_goto (tgt := 33) hC.x hC.b dX2_foretoldOf_16 (by decide) ?_
      exact reti hC hK hR hS (⟨by first | exact ft_0 (by assumption) (by assumption) | exact ft_v hkx hk1 (by assumption) (by assumption) (by assumption) (by assumption) (by assumption), by exact (Fr.tr Fr.rf f_5)⟩) dX2_foretoldOf_33
  · skip
    refine lv_astore_n (lv' := [(3, .ref (G.2.1 20)), (0, .ref (G.2.1 18)), (1, .ref (G.2.1 (80 + cq))), (2, .int hr)]) hC.x hC.b dX2_foretoldOf_6 rfl hl (by decide) rfl (fun ls hl => ?_)
    refine lv_aload_n hC.x hC.b dX2_foretoldOf_7 rfl (lv_at hl 0 rfl) ?_
    refine goip (runV (As := []) (rest := []) hC hK hR hl.1 (c_X3_count l hG s_3 t_4 20 (by decide) ) (call_b hC.ts TC_X3_count TN_X3 TM_X2_71 hd_X3_count ⟨Nat.le_of_ble_eq_true rfl, Nat.le_of_ble_eq_true rfl⟩) TI_X3_count TS_X3_count (ct_gains G _ _) rfl rfl rfl (Nat.le_of_ble_eq_true rfl) dX2_foretoldOf_8 ⟨Nat.le_of_ble_eq_true rfl, Nat.le_of_ble_eq_true rfl⟩) hS (fun v_21 H locs w_22 hR hS => ?_)
    subst w_22
    refine bz_ne (tgt := 19) (a := (s_3 20 0).toInt) (b := 0) hC.x hC.b rfl rfl dX2_foretoldOf_11 (by decide) (fun c_23 => ?_) (fun c_23 => ?_)
    · skip
      refine lv_aload_n hC.x hC.b dX2_foretoldOf_19 rfl (lv_at hl 1 rfl) ?_
      refine rget hC hK hR (ct_fore G _ _) rfl uin_X2 3 (by decide) TF_X2_21 rfl dX2_foretoldOf_20 ?_
      refine lv_aload_n hC.x hC.b dX2_foretoldOf_23 rfl (lv_at hl 0 rfl) ?_
      refine golp (runV (As := []) (rest := [.long (t_4 18 3)]) hC hK hR hl.1 (c5_X3_valueAtZero l hG s_3 t_4 20 (by decide) ) (call_b hC.ts TC_X3_valueAtZero TN_X3 TM_X2_79 hd_X3_valueAtZero ⟨Nat.le_of_ble_eq_true rfl, Nat.le_of_ble_eq_true rfl⟩) TI_X3_valueAtZero TS_X3_valueAtZero (ct_gains G _ _) rfl rfl rfl (Nat.le_of_ble_eq_true rfl) dX2_foretoldOf_24 ⟨Nat.le_of_ble_eq_true rfl, Nat.le_of_ble_eq_true rfl⟩) hS (fun v_24 H locs w_25 hR hS => ?_)
      have f_26 := w_25
      refine lv_ladd hC.x hC.b dX2_foretoldOf_27 ?_
      refine lv_ldc hC.x hC.b hC.ow (hC.ts _ TK_X2_83) dX2_foretoldOf_28 ?_
      have av_27 : (1000000000 : Int32).toInt = 1000000000 := by decide
      refine goip (runSN (As := [.long ((t_4 18 3) + v_24), .int (1000000000 : Int32)]) (rest := []) hC hK hR hl.1 (c_X9_cut l hG s_3 t_4 ((t_4 18 3) + v_24) (1000000000 : Int32) (by first | decide | omega)) (call_n hC.ts TC_X9_cut TN_X9 hK.2.2.2.2.2.2.1 hd_X9_cut ⟨Nat.le_of_ble_eq_true rfl, Nat.le_of_ble_eq_true rfl⟩) TT_X9_cut rfl rfl (Nat.le_of_ble_eq_true rfl) dX2_foretoldOf_30 ⟨Nat.le_of_ble_eq_true rfl, Nat.le_of_ble_eq_true rfl⟩) hS (fun v_28 H locs w_29 hR hS => ?_)
      have f_30 := w_29
      exact reti hC hK hR hS (⟨by first | exact ft_0 (by assumption) (by assumption) | exact ft_v hkx hk1 (by assumption) (by assumption) (by assumption) (by assumption) (by assumption), by exact (Fr.tr Fr.rf f_8)⟩) dX2_foretoldOf_33
    · skip
      refine lv_ldc hC.x hC.b hC.ow (hC.ts _ TK_X2_44) dX2_foretoldOf_14 ?_
      refine lv_goto (tgt := 33) hC.x hC.b dX2_foretoldOf_16 (by decide) ?_
      exact reti hC hK hR hS (⟨by first | exact ft_0 (by assumption) (by assumption) | exact ft_v hkx hk1 (by assumption) (by assumption) (by assumption) (by assumption) (by assumption), by exact (Fr.tr Fr.rf f_8)⟩) dX2_foretoldOf_33

abbrev po5_X2_gatherMissed (σ : SI) (τ : SL) (cq : Nat) (hr : Int32) : SI × SL → Prop := fun u => ((Fr (fun k => 18 ≤ k ∧ k ≤ 20) σ u.1) ∧ (GMe u.1 u.2 (MGr6 (xC σ 26 cq) (σ (80 + cq) 3).toInt hr.toInt)))
set_option maxRecDepth 100000 in
set_option maxHeartbeats 4000000 in
theorem c5_X2_gatherMissed (l : Launch) {G : Gx} {A : Nat → Prop} (hG : GOk G A) (σ : SI) (τ : SL) (cq : Nat) (hcq : cq < 24) (hr : Int32) (hhr : 0 ≤ hr.toInt ∧ hr.toInt ≤ 200) (hkq : KM6 σ cq hr) : MV l G A 1 yX2_gatherMissed cX2_gatherMissed 5 none [.ref (G.2.1 18), .ref (G.2.1 (80 + cq)), .int hr] (σ, τ) (po5_X2_gatherMissed σ τ cq hr) := by
  refine met_of (own := RX2) (by decide +kernel) rfl [(0, .ref (G.2.1 18)), (1, .ref (G.2.1 (80 + cq))), (2, .int hr)] rfl (Nat.le_of_ble_eq_true rfl) ?_
  intro p e s m args below meth c ls hC hK hR hl
  have hS : va_S A s.heap s.heap [] := va_S.rf
  obtain ⟨hk2, hk3, hkm⟩ := id hkq
  refine lv_aload_n hC.x hC.b dX2_gatherMissed_0 rfl (lv_at hl 0 rfl) ?_
  refine lv_iconst (v := 0) hC.x hC.b dX2_gatherMissed_1 (by decide) ?_
  refine rputi hC hK hG hR hS (ct_fore G _ _) rfl uin_X2 tyX2 tyX2_ok nmX2 4 (by decide) TF_X2_25 rfl (Or.inl rfl) (Nat.le_of_ble_eq_true rfl) rfl (ct_fore G _ _) dX2_gatherMissed_2 (fun s_2 es_1 H locs hR hS => ?_)
  refine lv_aload_n hC.x hC.b dX2_gatherMissed_5 rfl (lv_at hl 0 rfl) ?_
  refine lv_lconst (v := 0) hC.x hC.b dX2_gatherMissed_6 (by decide) ?_
  refine rputl hC hK hG hR hS (ct_fore G _ _) rfl uin_X2 tyX2 tyX2_ok nmX2 5 (by decide) TF_X2_29 rfl rfl (Nat.le_of_ble_eq_true rfl) rfl (ct_fore G _ _) dX2_gatherMissed_7 (fun t_4 es_3 H locs hR hS => ?_)
  refine lv_aload_n hC.x hC.b dX2_gatherMissed_10 rfl (lv_at hl 0 rfl) ?_
  refine lv_lconst (v := 0) hC.x hC.b dX2_gatherMissed_11 (by decide) ?_
  refine rputl hC hK hG hR hS (ct_fore G _ _) rfl uin_X2 tyX2 tyX2_ok nmX2 6 (by decide) TF_X2_32 rfl rfl (Nat.le_of_ble_eq_true rfl) rfl (ct_fore G _ _) dX2_gatherMissed_12 (fun t_6 es_5 H locs hR hS => ?_)
  refine lv_iload_n hC.x hC.b dX2_gatherMissed_15 rfl (lv_at hl 2 rfl) ?_
  refine lv_aload_n hC.x hC.b dX2_gatherMissed_16 rfl (lv_at hl 1 rfl) ?_
  refine rget hC hK hR (ct_clock hcq G _ _) rfl uin_X0 3 (by decide) TF_X2_104 rfl dX2_gatherMissed_17 ?_
  have rd_7 : (s_2 (80 + cq) 3).toInt = (σ (80 + cq) 3).toInt := congrArg Int32.toInt (show s_2 (80 + cq) 3 = σ (80 + cq) 3 from (by rw [es_1]; exact up2_o (by omega)))
  refine lv_isub hC.x hC.b dX2_gatherMissed_20 ?_
  have pr_8 : (hr - (s_2 (80 + cq) 3)).toInt = (hr.toInt - (s_2 (80 + cq) 3).toInt) := subI rfl rfl (by omega) (by omega)
  refine lv_aload_n hC.x hC.b dX2_gatherMissed_21 rfl (lv_at hl 1 rfl) ?_
  refine rget hC hK hR (ct_clock hcq G _ _) rfl uin_X0 8 (by decide) TF_X2_39 rfl dX2_gatherMissed_22 ?_
  have rd_9 : (s_2 (80 + cq) 8).toInt = (σ (80 + cq) 8).toInt := congrArg Int32.toInt (show s_2 (80 + cq) 8 = σ (80 + cq) 8 from (by rw [es_1]; exact up2_o (by omega)))
  have av_10 : (hr - (s_2 (80 + cq) 3)).toInt = (hr.toInt - (s_2 (80 + cq) 3).toInt) := pr_8
  refine goip (runS (As := [.int (hr - (s_2 (80 + cq) 3)), .int (s_2 (80 + cq) 8)]) (rest := []) hC hK hR hl.1 (c_J9_max_7cf53 l hG s_2 t_6 (hr - (s_2 (80 + cq) 3)) (s_2 (80 + cq) 8) ) (call_b hC.ts TC_J9_max_7cf53 TN_J9 TM_X2_107 hd_J9_max_7cf53 ⟨Nat.le_of_ble_eq_true rfl, Nat.le_of_ble_eq_true rfl⟩) TT_J9_max_7cf53 rfl rfl (Nat.le_of_ble_eq_true rfl) dX2_gatherMissed_25 ⟨Nat.le_of_ble_eq_true rfl, Nat.le_of_ble_eq_true rfl⟩) hS (fun v_11 H locs w_12 hR hS => ?_)
  have f_13 := w_12
  refine lv_istore_n (lv' := [(3, .int v_11), (0, .ref (G.2.1 18)), (1, .ref (G.2.1 (80 + cq))), (2, .int hr)]) hC.x hC.b dX2_gatherMissed_28 rfl hl (by decide) rfl (fun ls hl => ?_)
  have L_29 : ∀ (F : Nat) (n : Nat) (t : Int32) (s1 : SI) (t1 : SL), ((hr.toInt - t.toInt).toNat) < F → (t.toInt = (hr.toInt - (σ (80 + cq) 3).toInt) + n ∧ (n : Int) ≤ (σ (80 + cq) 3).toInt) → ((σ (80 + cq) 8).toInt ≤ t.toInt) → (GMe s1 t1 (MG (xC σ 26 cq) (hr.toInt - (σ (80 + cq) 3).toInt) n)) → (Fr (fun k => 18 ≤ k ∧ k ≤ 20) σ s1) → ∀ (H : Heap) (locs : List Loc) (ls : Array Slot), RepH G s1 t1 H → va_S A s.heap H locs → lv_has ls 5 [(0, .ref (G.2.1 18)), (1, .ref (G.2.1 (80 + cq))), (2, .int hr), (3, .int t)] → W p l e (rmD 1) s m args below meth c H locs 0 0 (MQ below (va_Qv (po5_X2_gatherMissed σ τ cq hr) (BU G) A) args s 0 0 A) (F0 m 29 ls []) := by
    intro F
    induction F with
    | zero => intro n t s1 t1 hm; exact absurd hm (Nat.not_lt_zero _)
    | succ F ih_29 =>
      intro n t s1 t1 hm_29 hi0_29 hi1_29 hi2_29 hi3_29 H locs ls hR hS hl
      refine lv_iload_n hC.x hC.b dX2_gatherMissed_29 rfl (lv_at hl 3 rfl) ?_
      refine lv_iload_n hC.x hC.b dX2_gatherMissed_30 rfl (lv_at hl 2 rfl) ?_
      refine bi_ge (tgt := 103) (a := t.toInt) (b := hr.toInt) hC.x hC.b rfl rfl dX2_gatherMissed_31 (by decide) (fun c_14 => ?_) (fun c_14 => ?_)
      · skip
        exact retv hC hK hR hS (⟨by exact hi3_29, by (try dsimp only); (have e9 : n = (σ (80 + cq) 3).toInt.toNat := by omega); subst e9; exact hi2_29⟩) dX2_gatherMissed_103
      · skip
        refine lv_aload_n hC.x hC.b dX2_gatherMissed_34 rfl (lv_at hl 0 rfl) ?_
        refine rget hC hK hR (ct_fore G _ _) rfl uin_X2 0 (by decide) TF_X2_35 rfl dX2_gatherMissed_35 ?_
        refine lv_iconst (v := 2) hC.x hC.b dX2_gatherMissed_38 (by decide) ?_
        refine lv_iload_n hC.x hC.b dX2_gatherMissed_39 rfl (lv_at hl 3 rfl) ?_
        refine lv_aload_n hC.x hC.b dX2_gatherMissed_40 rfl (lv_at hl 1 rfl) ?_
        refine rget hC hK hR (ct_clock hcq G _ _) rfl uin_X0 0 (by decide) TF_X2_45 rfl dX2_gatherMissed_41 ?_
        have av_15 : (2 : Int32).toInt = 2 := by decide
        have av_16 : (nI cq).toInt = ((cq : Nat) : Int) := (nI_T _ (by omega))
        refine goip (runV (As := [.int (2 : Int32), .int t, .int (nI cq)]) (rest := []) hC hK hR hl.1 (c5_X7_ofClock l hG s1 t1 (2 : Int32) t (nI cq) ) (call_b hC.ts TC_X7_ofClock TN_X7 TM_X2_48 hd_X7_ofClock ⟨Nat.le_of_ble_eq_true rfl, Nat.le_of_ble_eq_true rfl⟩) TI_X7_ofClock TS_X7_ofClock (ct_told G _ _) rfl rfl rfl (Nat.le_of_ble_eq_true rfl) dX2_gatherMissed_44 ⟨Nat.le_of_ble_eq_true rfl, Nat.le_of_ble_eq_true rfl⟩) hS (fun v_17 H locs w_18 hR hS => ?_)
        subst w_18
        rw [show (ofC s1 (2 : Int32) t (nI cq)) = (xC σ 26 cq t.toInt) from ofC_x (w := 2) (by decide) (by omega) (by omega) (hi3_29 26 (by omega)) (by omega)]
        refine lv_topi (fun x_19 ex_20 => ?_)
        refine lv_istore (lv' := [(4, .int x_19), (0, .ref (G.2.1 18)), (1, .ref (G.2.1 (80 + cq))), (2, .int hr), (3, .int t)]) hC.x hC.b dX2_gatherMissed_47 hl (by decide) rfl (fun ls hl => ?_)
        refine lv_iload hC.x hC.b dX2_gatherMissed_49 (lv_at hl 0 rfl) ?_
        refine lv_ldc hC.x hC.b hC.ow (hC.ts _ TK_X2_44) dX2_gatherMissed_51 ?_
        refine bi_eq (tgt := 97) (a := x_19.toInt) (b := 2000000000) hC.x hC.b rfl rfl dX2_gatherMissed_53 (by decide) (fun c_21 => ?_) (fun c_21 => ?_)
        · skip
          obtain ⟨x_22, ex_23⟩ : ∃ y : Int32, y = t + 1 := ⟨_, rfl⟩
          have pr_24 : x_22.toInt = t.toInt + (1) := by rw [ex_23]; exact addI rfl rfl (by omega) (by omega)
          refine lv_iinc (v := x_22) (lv' := [(3, .int x_22), (4, .int x_19), (0, .ref (G.2.1 18)), (1, .ref (G.2.1 (80 + cq))), (2, .int hr)]) hC.x hC.b dX2_gatherMissed_97 hl (k := 4) rfl ex_23.symm (by decide) rfl (fun ls hl => ?_)
          refine lv_goto (tgt := 29) hC.x hC.b dX2_gatherMissed_100 (by decide) ?_
          exact ih_29 (n + 1) x_22 s1 t1 (by omega) (by first | omega | assumption) (by first | omega | assumption) (by first | exact GM_n hi2_29 hi0_29.1 (by assumption) (by assumption) | exact GM_s hi2_29 hi0_29.1 (by assumption) (by assumption) (by assumption) (by skip; simp [up2]) (by skip; simp [up2]) (by skip; simp [up2])) hi3_29 _ _ _ hR hS (lv_sub hl [2, 3, 4, 0] rfl)
        · skip
          refine lv_aload_n hC.x hC.b dX2_gatherMissed_56 rfl (lv_at hl 1 rfl) ?_
          refine lv_dup hC.x hC.b dX2_gatherMissed_57 rfl ?_
          refine rget hC hK hR (ct_fore G _ _) rfl uin_X2 4 (by decide) TF_X2_25 rfl dX2_gatherMissed_58 ?_
          refine lv_iconst (v := 1) hC.x hC.b dX2_gatherMissed_61 (by decide) ?_
          refine lv_iadd hC.x hC.b dX2_gatherMissed_62 ?_
          refine rputi hC hK hG hR hS (ct_fore G _ _) rfl uin_X2 tyX2 tyX2_ok nmX2 4 (by decide) TF_X2_25 rfl (Or.inl rfl) (Nat.le_of_ble_eq_true rfl) rfl (ct_fore G _ _) dX2_gatherMissed_63 (fun s_26 es_25 H locs hR hS => ?_)
          refine lv_aload_n hC.x hC.b dX2_gatherMissed_66 rfl (lv_at hl 1 rfl) ?_
          refine lv_dup hC.x hC.b dX2_gatherMissed_67 rfl ?_
          refine rget hC hK hR (ct_fore G _ _) rfl uin_X2 5 (by decide) TF_X2_29 rfl dX2_gatherMissed_68 ?_
          refine lv_iload hC.x hC.b dX2_gatherMissed_71 (lv_at hl 0 rfl) ?_
          refine goip (runS (As := [.int x_19]) (rest := [.long (t1 18 5), .ref (G.2.1 18)]) hC hK hR hl.1 (c_J9_abs_0f7a4 l hG s_26 t1 x_19 ) (call_b hC.ts TC_J9_abs_0f7a4 TN_J9 TM_X2_110 hd_J9_abs_0f7a4 ⟨Nat.le_of_ble_eq_true rfl, Nat.le_of_ble_eq_true rfl⟩) TT_J9_abs_0f7a4 rfl rfl (Nat.le_of_ble_eq_true rfl) dX2_gatherMissed_73 ⟨Nat.le_of_ble_eq_true rfl, Nat.le_of_ble_eq_true rfl⟩) hS (fun v_27 H locs w_28 hR hS => ?_)
          have f_29 := w_28
          refine lv_i2l hC.x hC.b dX2_gatherMissed_76 rfl ?_
          refine lv_ladd hC.x hC.b dX2_gatherMissed_77 ?_
          refine rputl hC hK hG hR hS (ct_fore G _ _) rfl uin_X2 tyX2 tyX2_ok nmX2 5 (by decide) TF_X2_29 rfl rfl (Nat.le_of_ble_eq_true rfl) rfl (ct_fore G _ _) dX2_gatherMissed_78 (fun t_31 es_30 H locs hR hS => ?_)
          refine lv_aload_n hC.x hC.b dX2_gatherMissed_81 rfl (lv_at hl 1 rfl) ?_
          refine lv_dup hC.x hC.b dX2_gatherMissed_82 rfl ?_
          refine rget hC hK hR (ct_fore G _ _) rfl uin_X2 6 (by decide) TF_X2_32 rfl dX2_gatherMissed_83 ?_
          refine lv_iload hC.x hC.b dX2_gatherMissed_86 (lv_at hl 0 rfl) ?_
          refine lv_i2l hC.x hC.b dX2_gatherMissed_88 rfl ?_
          refine lv_iload hC.x hC.b dX2_gatherMissed_89 (lv_at hl 0 rfl) ?_
          refine lv_i2l hC.x hC.b dX2_gatherMissed_91 rfl ?_
          refine lv_lmul hC.x hC.b dX2_gatherMissed_92 ?_
          refine lv_ladd hC.x hC.b dX2_gatherMissed_93 ?_
          refine rputl hC hK hG hR hS (ct_fore G _ _) rfl uin_X2 tyX2 tyX2_ok nmX2 6 (by decide) TF_X2_32 rfl rfl (Nat.le_of_ble_eq_true rfl) rfl (ct_fore G _ _) dX2_gatherMissed_94 (fun t_33 es_32 H locs hR hS => ?_)
          obtain ⟨x_34, ex_35⟩ : ∃ y : Int32, y = t + 1 := ⟨_, rfl⟩
          have pr_36 : x_34.toInt = t.toInt + (1) := by rw [ex_35]; exact addI rfl rfl (by omega) (by omega)
          refine lv_iinc (v := x_34) (lv' := [(3, .int x_34), (4, .int x_19), (0, .ref (G.2.1 18)), (1, .ref (G.2.1 (80 + cq))), (2, .int hr)]) hC.x hC.b dX2_gatherMissed_97 hl (k := 4) rfl ex_35.symm (by decide) rfl (fun ls hl => ?_)
          refine lv_goto (tgt := 29) hC.x hC.b dX2_gatherMissed_100 (by decide) ?_
          exact ih_29 (n + 1) x_34 s_26 t_33 (by omega) (by first | omega | assumption) (by first | omega | assumption) (by first | exact GM_n hi2_29 hi0_29.1 (by assumption) (by assumption) | exact GM_s hi2_29 hi0_29.1 (by assumption) (by assumption) (by assumption) (by subst es_32; subst es_30; subst es_25; simp [up2]) (by subst es_32; subst es_30; subst es_25; simp [up2]) (by subst es_32; subst es_30; subst es_25; simp [up2])) (by rw [es_25]; exact Fr.up (hi3_29) (by first | omega | (dsimp only; omega))) _ _ _ hR hS (lv_sub hl [2, 3, 4, 0] rfl)
  exact L_29 _ (v_11.toInt - (hr.toInt - (σ (80 + cq) 3).toInt)).toNat v_11 s_2 t_6 (Nat.lt_succ_self _) (by first | omega | assumption) (by first | omega | assumption) (by subst es_5; subst es_3; subst es_1; exact GM_st (by simp [up2]) (by simp [up2]) (by simp [up2]) (by omega)) (by rw [es_1]; exact Fr.up (Fr.rf) (by first | omega | (dsimp only; omega))) _ _ _ hR hS (lv_sub hl [1, 2, 3, 0] rfl)

abbrev po5_X2_fullWeightOf (σ : SI) (τ : SL) (cq : Nat) (hr : Int32) (fa : Int32) : Int32 → SI × SL → Prop := fun v u => ((v = (FW6 (σ (80 + cq) 7).toInt fa (xC σ 26 cq) (σ (80 + cq) 3).toInt hr.toInt)) ∧ (Fr (fun k => 18 ≤ k ∧ k ≤ 20) σ u.1))
set_option maxRecDepth 100000 in
set_option maxHeartbeats 4000000 in
theorem c5_X2_fullWeightOf (l : Launch) {G : Gx} {A : Nat → Prop} (hG : GOk G A) (σ : SI) (τ : SL) (cq : Nat) (hcq : cq < 24) (hr : Int32) (fa : Int32) (hhr : 0 ≤ hr.toInt ∧ hr.toInt ≤ 200) (hkq : KM6 σ cq hr) : MI l G A 2 yX2_fullWeightOf cX2_fullWeightOf 6 (some .int) [.ref (G.2.1 18), .ref (G.2.1 (80 + cq)), .int hr, .int fa] (σ, τ) (po5_X2_fullWeightOf σ τ cq hr fa) := by
  refine met_of (own := RX2) (by decide +kernel) rfl [(0, .ref (G.2.1 18)), (1, .ref (G.2.1 (80 + cq))), (2, .int hr), (3, .int fa)] rfl (Nat.le_of_ble_eq_true rfl) ?_
  intro p e s m args below meth c ls hC hK hR hl
  have hS : va_S A s.heap s.heap [] := va_S.rf
  obtain ⟨hk2, hk3, hkm⟩ := id hkq
  refine lv_iload_n hC.x hC.b dX2_fullWeightOf_0 rfl (lv_at hl 3 rfl) ?_
  refine lv_ldc hC.x hC.b hC.ow (hC.ts _ TK_X2_44) dX2_fullWeightOf_1 ?_
  refine bi_eq (tgt := 13) (a := fa.toInt) (b := 2000000000) hC.x hC.b rfl rfl dX2_fullWeightOf_3 (by decide) (fun c_1 => ?_) (fun c_1 => ?_)
  · skip
    refine lv_iconst (v := 0) hC.x hC.b dX2_fullWeightOf_13 (by decide) ?_
    exact reti hC hK hR hS (⟨by first | exact fw_a (by omega) | exact fw_c (by omega) (by omega) (by assumption) (by omega) | exact fw_d hkm hk2 (by omega) (by omega) (by assumption) (by omega) (by assumption) (by assumption) | exact (fw_e hkm hk2 (by assumption) (by assumption) (by omega)).elim, by exact Fr.rf⟩) dX2_fullWeightOf_14
  · skip
    refine lv_aload_n hC.x hC.b dX2_fullWeightOf_6 rfl (lv_at hl 1 rfl) ?_
    refine rget hC hK hR (ct_clock hcq G _ _) rfl uin_X0 7 (by decide) TF_X2_88 rfl dX2_fullWeightOf_7 ?_
    refine bz_eq (tgt := 15) (a := (σ (80 + cq) 7).toInt) (b := 0) hC.x hC.b rfl rfl dX2_fullWeightOf_10 (by decide) (fun c_2 => ?_) (fun c_2 => ?_)
    · skip
      refine lv_aload_n hC.x hC.b dX2_fullWeightOf_15 rfl (lv_at hl 0 rfl) ?_
      refine lv_aload_n hC.x hC.b dX2_fullWeightOf_16 rfl (lv_at hl 1 rfl) ?_
      refine lv_iload_n hC.x hC.b dX2_fullWeightOf_17 rfl (lv_at hl 2 rfl) ?_
      refine gov (runV (As := [.ref (G.2.1 (80 + cq)), .int hr]) (rest := []) hC hK hR hl.1 (c5_X2_gatherMissed l hG σ τ cq hcq hr (by first | omega | assumption) (by first | exact hkq | exact KM6.f hkq Fr.rf)) (call_b hC.ts TC_X2_gatherMissed TN_X2 TM_X2_92 hd_X2_gatherMissed ⟨Nat.le_of_ble_eq_true rfl, Nat.le_of_ble_eq_true rfl⟩) TI_X2_gatherMissed TS_X2_gatherMissed (ct_fore G _ _) rfl rfl rfl (Nat.le_of_ble_eq_true rfl) dX2_fullWeightOf_18 ⟨Nat.le_of_ble_eq_true rfl, Nat.le_of_ble_eq_true rfl⟩) hS (fun s_5 t_6 H locs w_4 hR hS => ?_)
      try dsimp only [po5_X2_gatherMissed] at w_4
      obtain ⟨f_7, f_8⟩ := w_4
      refine lv_aload_n hC.x hC.b dX2_fullWeightOf_21 rfl (lv_at hl 0 rfl) ?_
      refine rget hC hK hR (ct_fore G _ _) rfl uin_X2 4 (by decide) TF_X2_25 rfl dX2_fullWeightOf_22 ?_
      refine bz_ne (tgt := 30) (a := (s_5 18 4).toInt) (b := 0) hC.x hC.b rfl rfl dX2_fullWeightOf_25 (by decide) (fun c_9 => ?_) (fun c_9 => ?_)
      · skip
        refine lv_lconst (v := 1) hC.x hC.b dX2_fullWeightOf_30 (by decide) ?_
        refine lv_aload_n hC.x hC.b dX2_fullWeightOf_31 rfl (lv_at hl 0 rfl) ?_
        refine rget hC hK hR (ct_fore G _ _) rfl uin_X2 6 (by decide) TF_X2_32 rfl dX2_fullWeightOf_32 ?_
        refine lv_ladd hC.x hC.b dX2_fullWeightOf_35 ?_
        refine lv_topl (fun x_10 ex_11 => ?_)
        refine lv_lstore (lv' := [(4, .long x_10), (0, .ref (G.2.1 18)), (1, .ref (G.2.1 (80 + cq))), (2, .int hr), (3, .int fa)]) hC.x hC.b dX2_fullWeightOf_36 hl (by decide) rfl (fun ls hl => ?_)
        refine lv_lload hC.x hC.b dX2_fullWeightOf_38 (lv_at hl 0 rfl) ?_
        refine lv_lconst (v := 0) hC.x hC.b dX2_fullWeightOf_40 (by decide) ?_
        refine bl_le (tgt := 59) (a := x_10.toInt) (b := 0) hC.x hC.b rfl rfl dX2_fullWeightOf_41 dX2_fullWeightOf_42 (by decide) (fun c_12 => ?_) (fun c_12 => ?_)
        · skip
          refine lv_iconst (v := 1) hC.x hC.b dX2_fullWeightOf_59 (by decide) ?_
          exact reti hC hK hR hS (⟨by first | exact fw_a (by omega) | exact fw_c (by omega) (by omega) (by assumption) (by omega) | exact fw_d hkm hk2 (by omega) (by omega) (by assumption) (by omega) (by assumption) (by assumption) | exact (fw_e hkm hk2 (by assumption) (by assumption) (by omega)).elim, by exact (Fr.tr Fr.rf f_7)⟩) dX2_fullWeightOf_60
        · skip
          refine lv_lconst (v := 1) hC.x hC.b dX2_fullWeightOf_45 (by decide) ?_
          refine lv_ldc2 hC.x hC.b hC.ow (hC.ts _ TK_X2_96) dX2_fullWeightOf_46 ?_
          refine lv_lload hC.x hC.b dX2_fullWeightOf_49 (lv_at hl 0 rfl) ?_
          refine lv_ldiv hC.x hC.b dX2_fullWeightOf_51 (ne0L rfl (by omega)) ?_
          have av_13 : (1 : Int64).toInt = 1 := by decide
          refine golp (runS (As := [.long (1 : Int64), .long ((1000000 : Int64) / x_10)]) (rest := []) hC hK hR hl.1 (c_J9_max_f86c9 l hG s_5 t_6 (1 : Int64) ((1000000 : Int64) / x_10) ) (call_b hC.ts TC_J9_max_f86c9 TN_J9 TM_X2_98 hd_J9_max_f86c9 ⟨Nat.le_of_ble_eq_true rfl, Nat.le_of_ble_eq_true rfl⟩) TT_J9_max_f86c9 rfl rfl (Nat.le_of_ble_eq_true rfl) dX2_fullWeightOf_52 ⟨Nat.le_of_ble_eq_true rfl, Nat.le_of_ble_eq_true rfl⟩) hS (fun v_14 H locs w_15 hR hS => ?_)
          have f_16 := w_15
          refine lv_l2i hC.x hC.b dX2_fullWeightOf_55 rfl ?_
          refine lv_goto (tgt := 60) hC.x hC.b dX2_fullWeightOf_56 (by decide) ?_
          exact reti hC hK hR hS (⟨by first | exact fw_a (by omega) | exact fw_c (by omega) (by omega) (by assumption) (by omega) | exact fw_d hkm hk2 (by omega) (by omega) (by assumption) (by omega) (by assumption) (by assumption) | exact (fw_e hkm hk2 (by assumption) (by assumption) (by omega)).elim, by exact (Fr.tr Fr.rf f_7)⟩) dX2_fullWeightOf_60
      · skip
        refine lv_iconst (v := 1) hC.x hC.b dX2_fullWeightOf_28 (by decide) ?_
        exact reti hC hK hR hS (⟨by first | exact fw_a (by omega) | exact fw_c (by omega) (by omega) (by assumption) (by omega) | exact fw_d hkm hk2 (by omega) (by omega) (by assumption) (by omega) (by assumption) (by assumption) | exact (fw_e hkm hk2 (by assumption) (by assumption) (by omega)).elim, by exact (Fr.tr Fr.rf f_7)⟩) dX2_fullWeightOf_29
    · skip
      refine lv_iconst (v := 0) hC.x hC.b dX2_fullWeightOf_13 (by decide) ?_
      exact reti hC hK hR hS (⟨by first | exact fw_a (by omega) | exact fw_c (by omega) (by omega) (by assumption) (by omega) | exact fw_d hkm hk2 (by omega) (by omega) (by assumption) (by omega) (by assumption) (by assumption) | exact (fw_e hkm hk2 (by assumption) (by assumption) (by omega)).elim, by exact Fr.rf⟩) dX2_fullWeightOf_14

abbrev po5_X2_usuallyMissedBy (σ : SI) (τ : SL) (cq : Nat) (hr : Int32) : Int64 → SI × SL → Prop := fun v u => ((v = (UM6 (xC σ 26 cq) (σ (80 + cq) 3).toInt hr.toInt)) ∧ (Fr (fun k => 18 ≤ k ∧ k ≤ 20) σ u.1))
set_option maxRecDepth 100000 in
set_option maxHeartbeats 4000000 in
theorem c5_X2_usuallyMissedBy (l : Launch) {G : Gx} {A : Nat → Prop} (hG : GOk G A) (σ : SI) (τ : SL) (cq : Nat) (hcq : cq < 24) (hr : Int32) (hhr : 0 ≤ hr.toInt ∧ hr.toInt ≤ 200) (hkq : KM6 σ cq hr) : ML l G A 2 yX2_usuallyMissedBy cX2_usuallyMissedBy 3 (some .long) [.ref (G.2.1 18), .ref (G.2.1 (80 + cq)), .int hr] (σ, τ) (po5_X2_usuallyMissedBy σ τ cq hr) := by
  refine met_of (own := RX2) (by decide +kernel) rfl [(0, .ref (G.2.1 18)), (1, .ref (G.2.1 (80 + cq))), (2, .int hr)] rfl (Nat.le_of_ble_eq_true rfl) ?_
  intro p e s m args below meth c ls hC hK hR hl
  have hS : va_S A s.heap s.heap [] := va_S.rf
  obtain ⟨hk2, hk3, hkm⟩ := id hkq
  refine lv_aload_n hC.x hC.b dX2_usuallyMissedBy_0 rfl (lv_at hl 0 rfl) ?_
  refine lv_aload_n hC.x hC.b dX2_usuallyMissedBy_1 rfl (lv_at hl 1 rfl) ?_
  refine lv_iload_n hC.x hC.b dX2_usuallyMissedBy_2 rfl (lv_at hl 2 rfl) ?_
  refine gov (runV (As := [.ref (G.2.1 (80 + cq)), .int hr]) (rest := []) hC hK hR hl.1 (c5_X2_gatherMissed l hG σ τ cq hcq hr (by first | omega | assumption) (by first | exact hkq | exact KM6.f hkq Fr.rf)) (call_b hC.ts TC_X2_gatherMissed TN_X2 TM_X2_92 hd_X2_gatherMissed ⟨Nat.le_of_ble_eq_true rfl, Nat.le_of_ble_eq_true rfl⟩) TI_X2_gatherMissed TS_X2_gatherMissed (ct_fore G _ _) rfl rfl rfl (Nat.le_of_ble_eq_true rfl) dX2_usuallyMissedBy_3 ⟨Nat.le_of_ble_eq_true rfl, Nat.le_of_ble_eq_true rfl⟩) hS (fun s_3 t_4 H locs w_2 hR hS => ?_)
  try dsimp only [po5_X2_gatherMissed] at w_2
  obtain ⟨f_5, f_6⟩ := w_2
  refine lv_aload_n hC.x hC.b dX2_usuallyMissedBy_6 rfl (lv_at hl 0 rfl) ?_
  refine rget hC hK hR (ct_fore G _ _) rfl uin_X2 4 (by decide) TF_X2_25 rfl dX2_usuallyMissedBy_7 ?_
  refine bz_le (tgt := 26) (a := (s_3 18 4).toInt) (b := 0) hC.x hC.b rfl rfl dX2_usuallyMissedBy_10 (by decide) (fun c_7 => ?_) (fun c_7 => ?_)
  · skip
    refine lv_lconst (v := 0) hC.x hC.b dX2_usuallyMissedBy_26 (by decide) ?_
    exact retl hC hK hR hS (⟨by first | exact um_y (by assumption) (by omega) | exact um_n hkm hk2 (by assumption) (by omega), by exact (Fr.tr Fr.rf f_5)⟩) dX2_usuallyMissedBy_27
  · skip
    refine lv_aload_n hC.x hC.b dX2_usuallyMissedBy_13 rfl (lv_at hl 0 rfl) ?_
    refine rget hC hK hR (ct_fore G _ _) rfl uin_X2 5 (by decide) TF_X2_29 rfl dX2_usuallyMissedBy_14 ?_
    refine lv_aload_n hC.x hC.b dX2_usuallyMissedBy_17 rfl (lv_at hl 0 rfl) ?_
    refine rget hC hK hR (ct_fore G _ _) rfl uin_X2 4 (by decide) TF_X2_25 rfl dX2_usuallyMissedBy_18 ?_
    refine lv_i2l hC.x hC.b dX2_usuallyMissedBy_21 rfl ?_
    refine lv_ldiv hC.x hC.b dX2_usuallyMissedBy_22 (ne0L (i2lI rfl) (by omega)) ?_
    refine lv_goto (tgt := 27) hC.x hC.b dX2_usuallyMissedBy_23 (by decide) ?_
    exact retl hC hK hR hS (⟨by first | exact um_y (by assumption) (by omega) | exact um_n hkm hk2 (by assumption) (by omega), by exact (Fr.tr Fr.rf f_5)⟩) dX2_usuallyMissedBy_27

abbrev po5_X2_haveOneSign (σ : SI) (τ : SL) (xa : Int32) (ya : Int32) : Int32 → SI × SL → Prop := fun v u => u = (σ, τ) ∧ (((v = (1)) ∧ ((0 < xa.toInt ∧ 0 < ya.toInt) ∨ (xa.toInt < 0 ∧ ya.toInt < 0))) ∨ ((v = (0)) ∧ (¬ ((0 < xa.toInt ∧ 0 < ya.toInt) ∨ (xa.toInt < 0 ∧ ya.toInt < 0)))))
set_option maxRecDepth 100000 in
set_option maxHeartbeats 4000000 in
theorem c5_X2_haveOneSign (l : Launch) {G : Gx} {A : Nat → Prop} (hG : GOk G A) (σ : SI) (τ : SL) (xa : Int32) (ya : Int32) : MI l G A 0 yX2_haveOneSign cX2_haveOneSign 2 (some .boolean) [.int xa, .int ya] (σ, τ) (po5_X2_haveOneSign σ τ xa ya) := by
  refine met_of (own := RX2) (by decide +kernel) rfl [(0, .int xa), (1, .int ya)] rfl (Nat.le_of_ble_eq_true rfl) ?_
  intro p e s m args below meth c ls hC hK hR hl
  have hS : va_S A s.heap s.heap [] := va_S.rf
  refine lv_iload_n hC.x hC.b dX2_haveOneSign_0 rfl (lv_at hl 0 rfl) ?_
  refine bz_le (tgt := 8) (a := xa.toInt) (b := 0) hC.x hC.b rfl rfl dX2_haveOneSign_1 (by decide) (fun c_1 => ?_) (fun c_1 => ?_)
  · skip
    refine lv_iload_n hC.x hC.b dX2_haveOneSign_8 rfl (lv_at hl 0 rfl) ?_
    refine bz_ge (tgt := 20) (a := xa.toInt) (b := 0) hC.x hC.b rfl rfl dX2_haveOneSign_9 (by decide) (fun c_2 => ?_) (fun c_2 => ?_)
    · skip
      refine lv_iconst (v := 0) hC.x hC.b dX2_haveOneSign_20 (by decide) ?_
      exact retz hC hK hR hS (Or.inl rfl) ⟨rfl, (by first | exact Or.inr ((⟨by first | rfl | omega, by first | omega | assumption⟩)) | exact False.elim (by omega))⟩ dX2_haveOneSign_21
    · skip
      refine lv_iload_n hC.x hC.b dX2_haveOneSign_12 rfl (lv_at hl 1 rfl) ?_
      refine bz_ge (tgt := 20) (a := ya.toInt) (b := 0) hC.x hC.b rfl rfl dX2_haveOneSign_13 (by decide) (fun c_3 => ?_) (fun c_3 => ?_)
      · skip
        refine lv_iconst (v := 0) hC.x hC.b dX2_haveOneSign_20 (by decide) ?_
        exact retz hC hK hR hS (Or.inl rfl) ⟨rfl, (by first | exact Or.inr ((⟨by first | rfl | omega, by first | omega | assumption⟩)) | exact False.elim (by omega))⟩ dX2_haveOneSign_21
      · skip
        refine lv_iconst (v := 1) hC.x hC.b dX2_haveOneSign_16 (by decide) ?_
        refine lv_goto (tgt := 21) hC.x hC.b dX2_haveOneSign_17 (by decide) ?_
        exact retz hC hK hR hS (Or.inr rfl) ⟨rfl, (by first | exact Or.inl (⟨by first | rfl | omega, by first | omega | assumption⟩) | exact False.elim (by omega))⟩ dX2_haveOneSign_21
  · skip
    refine lv_iload_n hC.x hC.b dX2_haveOneSign_4 rfl (lv_at hl 1 rfl) ?_
    refine bz_gt (tgt := 16) (a := ya.toInt) (b := 0) hC.x hC.b rfl rfl dX2_haveOneSign_5 (by decide) (fun c_4 => ?_) (fun c_4 => ?_)
    · skip
      refine lv_iconst (v := 1) hC.x hC.b dX2_haveOneSign_16 (by decide) ?_
      refine lv_goto (tgt := 21) hC.x hC.b dX2_haveOneSign_17 (by decide) ?_
      exact retz hC hK hR hS (Or.inr rfl) ⟨rfl, (by first | exact Or.inl (⟨by first | rfl | omega, by first | omega | assumption⟩) | exact False.elim (by omega))⟩ dX2_haveOneSign_21
    · skip
      refine lv_iload_n hC.x hC.b dX2_haveOneSign_8 rfl (lv_at hl 0 rfl) ?_
      refine bz_ge (tgt := 20) (a := xa.toInt) (b := 0) hC.x hC.b rfl rfl dX2_haveOneSign_9 (by decide) (fun c_5 => ?_) (fun c_5 => ?_)
      · skip
        refine lv_iconst (v := 0) hC.x hC.b dX2_haveOneSign_20 (by decide) ?_
        exact retz hC hK hR hS (Or.inl rfl) ⟨rfl, (by first | exact Or.inr ((⟨by first | rfl | omega, by first | omega | assumption⟩)) | exact False.elim (by omega))⟩ dX2_haveOneSign_21
      · skip
        refine lv_iload_n hC.x hC.b dX2_haveOneSign_12 rfl (lv_at hl 1 rfl) ?_
        refine bz_ge (tgt := 20) (a := ya.toInt) (b := 0) hC.x hC.b rfl rfl dX2_haveOneSign_13 (by decide) (fun c_6 => ?_) (fun c_6 => ?_)
        · skip
          refine lv_iconst (v := 0) hC.x hC.b dX2_haveOneSign_20 (by decide) ?_
          exact retz hC hK hR hS (Or.inl rfl) ⟨rfl, (by first | exact Or.inr ((⟨by first | rfl | omega, by first | omega | assumption⟩)) | exact False.elim (by omega))⟩ dX2_haveOneSign_21
        · skip
          refine lv_iconst (v := 1) hC.x hC.b dX2_haveOneSign_16 (by decide) ?_
          refine lv_goto (tgt := 21) hC.x hC.b dX2_haveOneSign_17 (by decide) ?_
          exact retz hC hK hR hS (Or.inr rfl) ⟨rfl, (by first | exact Or.inl (⟨by first | rfl | omega, by first | omega | assumption⟩) | exact False.elim (by omega))⟩ dX2_haveOneSign_21

abbrev po5_X2_drifts (σ : SI) (τ : SL) (cq : Nat) (hr : Int32) : Int32 → SI × SL → Prop := fun v u => u = (σ, τ) ∧ (((v = (1)) ∧ (DR6 (xC σ 26 cq) hr.toInt (xC σ 26 cq hr.toInt))) ∨ ((v = (0)) ∧ (¬ DR6 (xC σ 26 cq) hr.toInt (xC σ 26 cq hr.toInt))))
set_option maxRecDepth 100000 in
set_option maxHeartbeats 4000000 in
theorem c5_X2_drifts (l : Launch) {G : Gx} {A : Nat → Prop} (hG : GOk G A) (σ : SI) (τ : SL) (cq : Nat) (hcq : cq < 24) (hr : Int32) (hhr : 0 ≤ hr.toInt ∧ hr.toInt ≤ 200) (hkq : KM6 σ cq hr) : MI l G A 2 yX2_drifts cX2_drifts 6 (some .boolean) [.ref (G.2.1 18), .ref (G.2.1 (80 + cq)), .int hr] (σ, τ) (po5_X2_drifts σ τ cq hr) := by
  refine met_of (own := RX2) (by decide +kernel) rfl [(0, .ref (G.2.1 18)), (1, .ref (G.2.1 (80 + cq))), (2, .int hr)] rfl (Nat.le_of_ble_eq_true rfl) ?_
  intro p e s m args below meth c ls hC hK hR hl
  have hS : va_S A s.heap s.heap [] := va_S.rf
  obtain ⟨hk2, hk3, hkm⟩ := id hkq
  refine lv_iload_n hC.x hC.b dX2_drifts_0 rfl (lv_at hl 2 rfl) ?_
  refine lv_iconst (v := 2) hC.x hC.b dX2_drifts_1 (by decide) ?_
  refine lv_isub hC.x hC.b dX2_drifts_2 ?_
  have pr_1 : (hr - (2 : Int32)).toInt = (hr.toInt - 2) := subI rfl rfl (by omega) (by omega)
  refine lv_istore_n (lv' := [(3, .int (hr - (2 : Int32))), (0, .ref (G.2.1 18)), (1, .ref (G.2.1 (80 + cq))), (2, .int hr)]) hC.x hC.b dX2_drifts_3 rfl hl (by decide) rfl (fun ls hl => ?_)
  have L_4 : ∀ (F : Nat) (t : Int32), ((hr.toInt + 1 - t.toInt).toNat) < F → (hr.toInt - 2 ≤ t.toInt ∧ t.toInt ≤ hr.toInt + 1) → (∀ u : Int, hr.toInt - 2 ≤ u → u < t.toInt → D16 (xC σ 26 cq (u - 1)) (xC σ 26 cq u)) → ∀ (H : Heap) (locs : List Loc) (ls : Array Slot), RepH G σ τ H → va_S A s.heap H locs → lv_has ls 6 [(0, .ref (G.2.1 18)), (1, .ref (G.2.1 (80 + cq))), (2, .int hr), (3, .int t)] → W p l e (rmD 2) s m args below meth c H locs 0 0 (MQ below (va_Qi (po5_X2_drifts σ τ cq hr) (BU G) A) args s 0 0 A) (F0 m 4 ls []) := by
    intro F
    induction F with
    | zero => intro t hm; exact absurd hm (Nat.not_lt_zero _)
    | succ F ih_4 =>
      intro t hm_4 hi0_4 hi1_4 H locs ls hR hS hl
      refine lv_iload_n hC.x hC.b dX2_drifts_4 rfl (lv_at hl 3 rfl) ?_
      refine lv_iload_n hC.x hC.b dX2_drifts_5 rfl (lv_at hl 2 rfl) ?_
      refine bi_gt (tgt := 72) (a := t.toInt) (b := hr.toInt) hC.x hC.b rfl rfl dX2_drifts_6 (by decide) (fun c_2 => ?_) (fun c_2 => ?_)
      · skip
        refine lv_iconst (v := 1) hC.x hC.b dX2_drifts_72 (by decide) ?_
        exact retz hC hK hR hS (Or.inr rfl) ⟨rfl, (by first | exact Or.inl (⟨by first | rfl | omega, by exact dr_yes (fun u a b => hi1_4 u a (by omega))⟩) | exact False.elim (by omega))⟩ dX2_drifts_73
      · skip
        refine lv_aload_n hC.x hC.b dX2_drifts_9 rfl (lv_at hl 0 rfl) ?_
        refine lv_aload_n hC.x hC.b dX2_drifts_10 rfl (lv_at hl 1 rfl) ?_
        refine lv_iload_n hC.x hC.b dX2_drifts_11 rfl (lv_at hl 3 rfl) ?_
        refine lv_iconst (v := 1) hC.x hC.b dX2_drifts_12 (by decide) ?_
        refine lv_isub hC.x hC.b dX2_drifts_13 ?_
        have pr_3 : (t - (1 : Int32)).toInt = (t.toInt - 1) := subI rfl rfl (by omega) (by omega)
        have av_4 : (t - (1 : Int32)).toInt = (t.toInt - 1) := pr_3
        refine goip (runV (As := [.ref (G.2.1 (80 + cq)), .int (t - (1 : Int32))]) (rest := []) hC hK hR hl.1 (c5_X2_missedOf l hG σ τ cq hcq (t - (1 : Int32)) ) (call_b hC.ts TC_X2_missedOf TN_X2 TM_X2_114 hd_X2_missedOf ⟨Nat.le_of_ble_eq_true rfl, Nat.le_of_ble_eq_true rfl⟩) TI_X2_missedOf TS_X2_missedOf (ct_fore G _ _) rfl rfl rfl (Nat.le_of_ble_eq_true rfl) dX2_drifts_14 ⟨Nat.le_of_ble_eq_true rfl, Nat.le_of_ble_eq_true rfl⟩) hS (fun v_5 H locs w_6 hR hS => ?_)
        subst w_6
        rw [show (xC σ 26 cq (t - (1 : Int32)).toInt) = (xC σ 26 cq (t.toInt - 1)) from by rw [show (t - (1 : Int32)).toInt = t.toInt - 1 by omega]]
        refine lv_topi (fun x_7 ex_8 => ?_)
        refine lv_istore (lv' := [(4, .int x_7), (0, .ref (G.2.1 18)), (1, .ref (G.2.1 (80 + cq))), (2, .int hr), (3, .int t)]) hC.x hC.b dX2_drifts_17 hl (by decide) rfl (fun ls hl => ?_)
        refine lv_aload_n hC.x hC.b dX2_drifts_19 rfl (lv_at hl 1 rfl) ?_
        refine lv_aload_n hC.x hC.b dX2_drifts_20 rfl (lv_at hl 2 rfl) ?_
        refine lv_iload_n hC.x hC.b dX2_drifts_21 rfl (lv_at hl 4 rfl) ?_
        refine goip (runV (As := [.ref (G.2.1 (80 + cq)), .int t]) (rest := []) hC hK hR hl.1 (c5_X2_missedOf l hG σ τ cq hcq t ) (call_b hC.ts TC_X2_missedOf TN_X2 TM_X2_114 hd_X2_missedOf ⟨Nat.le_of_ble_eq_true rfl, Nat.le_of_ble_eq_true rfl⟩) TI_X2_missedOf TS_X2_missedOf (ct_fore G _ _) rfl rfl rfl (Nat.le_of_ble_eq_true rfl) dX2_drifts_22 ⟨Nat.le_of_ble_eq_true rfl, Nat.le_of_ble_eq_true rfl⟩) hS (fun v_9 H locs w_10 hR hS => ?_)
        subst w_10
        refine lv_topi (fun x_11 ex_12 => ?_)
        refine lv_istore (lv' := [(5, .int x_11), (4, .int x_7), (0, .ref (G.2.1 18)), (1, .ref (G.2.1 (80 + cq))), (2, .int hr), (3, .int t)]) hC.x hC.b dX2_drifts_25 hl (by decide) rfl (fun ls hl => ?_)
        refine lv_iload hC.x hC.b dX2_drifts_27 (lv_at hl 1 rfl) ?_
        refine lv_ldc hC.x hC.b hC.ow (hC.ts _ TK_X2_44) dX2_drifts_29 ?_
        refine bi_eq (tgt := 64) (a := x_7.toInt) (b := 2000000000) hC.x hC.b rfl rfl dX2_drifts_31 (by decide) (fun c_13 => ?_) (fun c_13 => ?_)
        · skip
          refine lv_iconst (v := 0) hC.x hC.b dX2_drifts_64 (by decide) ?_
          exact retz hC hK hR hS (Or.inl rfl) ⟨rfl, (by first | exact Or.inr ((⟨by first | rfl | omega, by exact dr_no (t := t.toInt) (by first | exact dr_n1 (by assumption) (by assumption) | exact dr_n2 (by assumption) (by assumption) | exact dr_n3 (by assumption) (by assumption) (by assumption) | exact dr_n4 hkm (by assumption) (by assumption) (by assumption) (by assumption) (by assumption) (by assumption) (by omega)) (by omega) (by omega)⟩)) | exact False.elim (by omega))⟩ dX2_drifts_65
        · skip
          refine lv_iload hC.x hC.b dX2_drifts_34 (lv_at hl 0 rfl) ?_
          refine lv_ldc hC.x hC.b hC.ow (hC.ts _ TK_X2_44) dX2_drifts_36 ?_
          refine bi_eq (tgt := 64) (a := x_11.toInt) (b := 2000000000) hC.x hC.b rfl rfl dX2_drifts_38 (by decide) (fun c_14 => ?_) (fun c_14 => ?_)
          · skip
            refine lv_iconst (v := 0) hC.x hC.b dX2_drifts_64 (by decide) ?_
            exact retz hC hK hR hS (Or.inl rfl) ⟨rfl, (by first | exact Or.inr ((⟨by first | rfl | omega, by exact dr_no (t := t.toInt) (by first | exact dr_n1 (by assumption) (by assumption) | exact dr_n2 (by assumption) (by assumption) | exact dr_n3 (by assumption) (by assumption) (by assumption) | exact dr_n4 hkm (by assumption) (by assumption) (by assumption) (by assumption) (by assumption) (by assumption) (by omega)) (by omega) (by omega)⟩)) | exact False.elim (by omega))⟩ dX2_drifts_65
          · skip
            refine lv_iload hC.x hC.b dX2_drifts_41 (lv_at hl 1 rfl) ?_
            refine lv_iload hC.x hC.b dX2_drifts_43 (lv_at hl 0 rfl) ?_
            refine goip (runS (As := [.int x_7, .int x_11]) (rest := []) hC hK hR hl.1 (c5_X2_haveOneSign l hG σ τ x_7 x_11 ) (call_b hC.ts TC_X2_haveOneSign TN_X2 TM_X2_117 hd_X2_haveOneSign ⟨Nat.le_of_ble_eq_true rfl, Nat.le_of_ble_eq_true rfl⟩) TT_X2_haveOneSign rfl rfl (Nat.le_of_ble_eq_true rfl) dX2_drifts_45 ⟨Nat.le_of_ble_eq_true rfl, Nat.le_of_ble_eq_true rfl⟩) hS (fun v_15 H locs w_16 hR hS => ?_)
            rcases w_16 with ⟨rfl, f_17⟩ | ⟨rfl, f_18⟩
            · skip
              refine bz_eq (tgt := 64) (a := 1) (b := 0) hC.x hC.b rfl rfl dX2_drifts_48 (by decide) (fun c_19 => absurd c_19 (by decide)) (fun _ => ?_)
              refine lv_iload hC.x hC.b dX2_drifts_51 (lv_at hl 0 rfl) ?_
              refine goip (runS (As := [.int x_11]) (rest := []) hC hK hR hl.1 (c_J9_abs_0f7a4 l hG σ τ x_11 ) (call_b hC.ts TC_J9_abs_0f7a4 TN_J9 TM_X2_110 hd_J9_abs_0f7a4 ⟨Nat.le_of_ble_eq_true rfl, Nat.le_of_ble_eq_true rfl⟩) TT_J9_abs_0f7a4 rfl rfl (Nat.le_of_ble_eq_true rfl) dX2_drifts_53 ⟨Nat.le_of_ble_eq_true rfl, Nat.le_of_ble_eq_true rfl⟩) hS (fun v_20 H locs w_21 hR hS => ?_)
              have f_22 := w_21
              refine lv_iload hC.x hC.b dX2_drifts_56 (lv_at hl 1 rfl) ?_
              refine goip (runS (As := [.int x_7]) (rest := [.int v_20]) hC hK hR hl.1 (c_J9_abs_0f7a4 l hG σ τ x_7 ) (call_b hC.ts TC_J9_abs_0f7a4 TN_J9 TM_X2_110 hd_J9_abs_0f7a4 ⟨Nat.le_of_ble_eq_true rfl, Nat.le_of_ble_eq_true rfl⟩) TT_J9_abs_0f7a4 rfl rfl (Nat.le_of_ble_eq_true rfl) dX2_drifts_58 ⟨Nat.le_of_ble_eq_true rfl, Nat.le_of_ble_eq_true rfl⟩) hS (fun v_23 H locs w_24 hR hS => ?_)
              have f_25 := w_24
              refine bi_gt (tgt := 66) (a := v_20.toInt) (b := v_23.toInt) hC.x hC.b rfl rfl dX2_drifts_61 (by decide) (fun c_26 => ?_) (fun c_26 => ?_)
              · skip
                obtain ⟨x_27, ex_28⟩ : ∃ y : Int32, y = t + 1 := ⟨_, rfl⟩
                have pr_29 : x_27.toInt = t.toInt + (1) := by rw [ex_28]; exact addI rfl rfl (by omega) (by omega)
                refine lv_iinc (v := x_27) (lv' := [(3, .int x_27), (5, .int x_11), (4, .int x_7), (0, .ref (G.2.1 18)), (1, .ref (G.2.1 (80 + cq))), (2, .int hr)]) hC.x hC.b dX2_drifts_66 hl (k := 5) rfl ex_28.symm (by decide) rfl (fun ls hl => ?_)
                refine lv_goto (tgt := 4) hC.x hC.b dX2_drifts_69 (by decide) ?_
                exact ih_4 x_27 (by omega) (by first | omega | assumption) (by exact dr_sg hi1_4 (dr_go hkm (by assumption) (by assumption) (by assumption) (by assumption) (by assumption) (by assumption) (by assumption) (by omega)) (by omega)) _ _ _ hR hS (lv_sub hl [3, 4, 5, 0] rfl)
              · skip
                refine lv_iconst (v := 0) hC.x hC.b dX2_drifts_64 (by decide) ?_
                exact retz hC hK hR hS (Or.inl rfl) ⟨rfl, (by first | exact Or.inr ((⟨by first | rfl | omega, by exact dr_no (t := t.toInt) (by first | exact dr_n1 (by assumption) (by assumption) | exact dr_n2 (by assumption) (by assumption) | exact dr_n3 (by assumption) (by assumption) (by assumption) | exact dr_n4 hkm (by assumption) (by assumption) (by assumption) (by assumption) (by assumption) (by assumption) (by omega)) (by omega) (by omega)⟩)) | exact False.elim (by omega))⟩ dX2_drifts_65
            · skip
              refine bz_eq (tgt := 64) (a := 0) (b := 0) hC.x hC.b rfl rfl dX2_drifts_48 (by decide) (fun _ => ?_) (fun c_30 => absurd c_30 (by decide))
              refine lv_iconst (v := 0) hC.x hC.b dX2_drifts_64 (by decide) ?_
              exact retz hC hK hR hS (Or.inl rfl) ⟨rfl, (by first | exact Or.inr ((⟨by first | rfl | omega, by exact dr_no (t := t.toInt) (by first | exact dr_n1 (by assumption) (by assumption) | exact dr_n2 (by assumption) (by assumption) | exact dr_n3 (by assumption) (by assumption) (by assumption) | exact dr_n4 hkm (by assumption) (by assumption) (by assumption) (by assumption) (by assumption) (by assumption) (by omega)) (by omega) (by omega)⟩)) | exact False.elim (by omega))⟩ dX2_drifts_65
  exact L_4 _ (hr - (2 : Int32)) (Nat.lt_succ_self _) (by first | omega | assumption) (by intro u a b; omega) _ _ _ hR hS (lv_sub hl [1, 2, 3, 0] rfl)
