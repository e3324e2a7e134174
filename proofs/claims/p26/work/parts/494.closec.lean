/-! ===== the class's closing, with what it tells ===== -/
abbrev St6 : Type := Int32 × (Nat → Int32) × (Nat → Int32) × (Nat → Int32)
def stC (σ : SI) : St6 := (σ 8 3, σ 9, σ 10, σ 11)
def stM6 (σ : SI) : St6 := (σ 35 37, σ 65, σ 66, σ 67)
/-- one STEP more, while there is room -/
def ad6 (S : St6) (h p m : Int32) : St6 := if 0 ≤ S.1.toInt ∧ S.1.toInt < 100 then (S.1 + 1, (fun j => if j = S.1.toInt.toNat then h else S.2.1 j), (fun j => if j = S.1.toInt.toNat then p else S.2.2.1 j), (fun j => if j = S.1.toInt.toNat then m else S.2.2.2 j)) else S
theorem ad6_y {σ s1 s2 s3 s4 : SI} {h p m : Int32} (e1 : s1 = up2 σ 9 (σ 8 3).toInt.toNat h) (e2 : s2 = up2 s1 10 (s1 8 3).toInt.toNat p) (e3 : s3 = up2 s2 11 (s2 8 3).toInt.toNat m) (e4 : s4 = up2 s3 8 3 (s3 8 3 + 1)) (c : 0 ≤ (σ 8 3).toInt ∧ (σ 8 3).toInt < 100) : stC s4 = ad6 (stC σ) h p m := by
  have a1 : s1 8 3 = σ 8 3 := by rw [e1]; exact up2_o (by decide)
  have a2 : s2 8 3 = σ 8 3 := by rw [e2]; exact (up2_o (by decide)).trans a1
  have a3 : s3 8 3 = σ 8 3 := by rw [e3]; exact (up2_o (by decide)).trans a2
  rw [a1] at e2
  rw [a2] at e3
  rw [a3] at e4
  have b0 : s4 8 3 = σ 8 3 + 1 := by rw [e4]; exact up2_s
  have b1 : s4 9 = fun j => if j = (σ 8 3).toInt.toNat then h else σ 9 j := by rw [e4, up2_ne (by decide), e3, up2_ne (by decide), e2, up2_ne (by decide), e1, up2_at]
  have b2 : s4 10 = fun j => if j = (σ 8 3).toInt.toNat then p else σ 10 j := by rw [e4, up2_ne (by decide), e3, up2_ne (by decide), e2, up2_at, e1, up2_ne (by decide)]
  have b3 : s4 11 = fun j => if j = (σ 8 3).toInt.toNat then m else σ 11 j := by rw [e4, up2_ne (by decide), e3, up2_at, e2, up2_ne (by decide), e1, up2_ne (by decide)]
  unfold stC ad6
  rw [b0, b1, b2, b3, if_pos c]
theorem ad6_n {σ : SI} {h p m : Int32} (c : (σ 8 3).toInt < 0 ∨ 100 ≤ (σ 8 3).toInt) : stC σ = ad6 (stC σ) h p m := by
  unfold ad6
  rw [if_neg (by show ¬ (0 ≤ (σ 8 3).toInt ∧ (σ 8 3).toInt < 100); omega)]
/-! hold: what is FORETOLD, D and the FULL WEIGHT of each -/
abbrev FTc (σ : SI) (p : Nat) (hr : Int32) : Int32 := FT (xC σ 24 p) (σ (80 + p) 2).toInt hr.toInt (σ (80 + p) 1).toInt
abbrev FWc (σ : SI) (p : Nat) (hr : Int32) : Int32 := FW6 (σ (80 + p) 7).toInt (FTc σ p hr) (xC σ 26 p) (σ (80 + p) 3).toInt hr.toInt
abbrev DVc (σ s : SI) (rq p : Nat) : Int32 := ((-(s 15 p)) - σ (80 + p) 4) + σ (80 + rq) 4
def HO6 (σ s : SI) (rq : Nat) (hr : Int32) (n : Nat) : Prop :=
  (∀ k, ¬ (12 ≤ k ∧ k ≤ 22) → k ≠ 25 → k ≠ 28 → s k = σ k) ∧ (∀ j, (∀ p, p < n → j ≠ 24 * hr.toInt.toNat + p) → s 25 j = σ 25 j ∧ s 28 j = σ 28 j) ∧
  ∀ p, p < n → (TkC σ p ∧ (s 14 p).toInt ≠ -1 ∧ s 25 (24 * hr.toInt.toNat + p) = FTc σ p hr ∧ s 28 (24 * hr.toInt.toNat + p) = DVc σ s rq p ∧ s 22 p = FWc σ p hr) ∨ ((¬ TkC σ p ∨ (s 14 p).toInt = -1) ∧ s 25 (24 * hr.toInt.toNat + p) = σ 25 (24 * hr.toInt.toNat + p) ∧ s 28 (24 * hr.toInt.toNat + p) = σ 28 (24 * hr.toInt.toNat + p) ∧ s 22 p = 0)
theorem HO6.st {σ s : SI} {rq : Nat} {hr : Int32} (r : Fr (fun k => 12 ≤ k ∧ k ≤ 17) σ s) : HO6 σ s rq hr 0 :=
  ⟨fun k h1 _ _ => r k (by omega), fun j _ => ⟨by rw [r 25 (by omega)], by rw [r 28 (by omega)]⟩, fun p hp => absurd hp (Nat.not_lt_zero p)⟩
theorem HO6.sk {σ s s' : SI} {rq n : Nat} {hr : Int32} (h : HO6 σ s rq hr n) (e : s' = up2 s 22 n 0) (hq : ¬ TkC σ n ∨ (s 14 n).toInt = -1) : HO6 σ s' rq hr (n + 1) := by
  obtain ⟨h1, h2, h3⟩ := h
  have g : ∀ k, k ≠ 22 → s' k = s k := fun k hk => by rw [e]; exact up2_ne hk
  refine ⟨fun k a b c => (g k (by omega)).trans (h1 k a b c), fun j hj => ?_, fun p hp => ?_⟩
  · rw [g 25 (by decide), g 28 (by decide)]
    exact h2 j (fun p hp => hj p (by omega))
  · by_cases z : p = n
    · subst z
      have a := h2 (24 * hr.toInt.toNat + p) (fun p' hp' => by omega)
      right
      rw [g 14 (by decide), g 25 (by decide), g 28 (by decide)]
      exact ⟨hq, a.1, a.2, by rw [e]; exact up2_s⟩
    · have a := h3 p (by omega)
      unfold DVc at a ⊢
      rw [g 14 (by decide), g 15 (by decide), g 25 (by decide), g 28 (by decide), show s' 22 p = s 22 p by rw [e]; exact up2_n z]
      exact a
theorem HO6.ad {σ s1 s2 s3 s4 s5 s6 s7 s8 : SI} {rq n : Nat} {hr ft x : Int32} (h : HO6 σ s1 rq hr n) (hn : n < 24) (hrq : rq < 24) (e2 : s2 = up2 s1 22 n 0) (r3 : Fr (fun k => 18 ≤ k ∧ k ≤ 20) s2 s3) (eft : ft = FT (xC s2 24 n) (s2 (80 + n) 2).toInt hr.toInt (s2 (80 + n) 1).toInt) (e4 : s4 = up2 s3 25 (24 * hr.toInt.toNat + n) ft)
    (e5 : s5 = up2 s4 28 (24 * hr.toInt.toNat + n) (((-(s4 15 n)) - σ (80 + n) 4) + σ (80 + rq) 4)) (r6 : Fr (fun k => 18 ≤ k ∧ k ≤ 20) s5 s6) (e7 : s7 = up2 s6 22 n (FW6 (s5 (80 + n) 7).toInt ft (xC s5 26 n) (s5 (80 + n) 3).toInt hr.toInt)) (e8 : s8 = up2 s7 21 6 x) (tk : TkC σ n) (h14 : (s1 14 n).toInt ≠ -1) : HO6 σ s8 rq hr (n + 1) := by
  obtain ⟨h1, h2, h3⟩ := h
  have k2 : ∀ k, k ≠ 22 → s2 k = s1 k := fun k hk => by rw [e2]; exact up2_ne hk
  have k5 : ∀ k, ¬ (18 ≤ k ∧ k ≤ 20) → k ≠ 22 → k ≠ 25 → k ≠ 28 → s5 k = s1 k := fun k a b c d => by rw [e5, up2_ne d, e4, up2_ne c, r3 k a, k2 k b]
  have k4 : ∀ k, ¬ (18 ≤ k ∧ k ≤ 20) → k ≠ 22 → k ≠ 25 → s4 k = s1 k := fun k a b c => by rw [e4, up2_ne c, r3 k a, k2 k b]
  have k8 : ∀ k, ¬ (18 ≤ k ∧ k ≤ 22) → k ≠ 25 → k ≠ 28 → s8 k = s1 k := fun k a c d => by rw [e8, up2_ne (by omega), e7, up2_ne (by omega), r6 k (by omega), k5 k (by omega) (by omega) c d]
  have t25 : s8 25 = s4 25 := by rw [e8, up2_ne (by decide), e7, up2_ne (by decide), r6 25 (by omega), e5, up2_ne (by decide)]
  have t28 : s8 28 = s5 28 := by rw [e8, up2_ne (by decide), e7, up2_ne (by decide), r6 28 (by omega)]
  have c25 : ∀ j, j ≠ 24 * hr.toInt.toNat + n → s8 25 j = s1 25 j := fun j hj => by rw [t25, e4, up2_n hj, r3 25 (by omega), k2 25 (by decide)]
  have c28 : ∀ j, j ≠ 24 * hr.toInt.toNat + n → s8 28 j = s1 28 j := fun j hj => by rw [t28, e5, up2_n hj, k4 28 (by omega) (by decide) (by decide)]
  have s1k : ∀ k, ¬ (12 ≤ k ∧ k ≤ 22) → k ≠ 25 → k ≠ 28 → s1 k = σ k := h1
  have c80 : ∀ p, s1 (80 + p) = σ (80 + p) := fun p => s1k _ (by omega) (by omega) (by omega)
  have c22 : ∀ p, p ≠ n → s8 22 p = s1 22 p := fun p hp => by rw [e8, up2_o (by decide), e7, up2_n hp, r6 22 (by omega), e5, up2_ne (by decide), e4, up2_ne (by decide), r3 22 (by omega), e2, up2_n hp]
  refine ⟨fun k a b c => (k8 k (by omega) b c).trans (s1k k a b c), fun j hj => ?_, fun p hp => ?_⟩
  · have hjn := hj n (by omega)
    rw [c25 j hjn, c28 j hjn]
    exact h2 j (fun p hp => hj p (by omega))
  · by_cases z : p = n
    · subst z
      left
      have xe : xC s2 24 p = xC σ 24 p := xC_ex (by rw [k2 (80 + p) (by omega), c80]) (by rw [k2 24 (by decide), s1k 24 (by omega) (by decide) (by decide)])
      have ye : xC s5 26 p = xC σ 26 p := xC_ex (by rw [k5 (80 + p) (by omega) (by omega) (by omega) (by omega), c80]) (by rw [k5 26 (by omega) (by decide) (by decide) (by decide), s1k 26 (by omega) (by decide) (by decide)])
      rw [xe, k2 (80 + p) (by omega), c80] at eft
      refine ⟨tk, by rw [k8 14 (by omega) (by decide) (by decide)]; exact h14, ?_, ?_, ?_⟩
      · rw [t25, e4, up2_s, eft]
      · unfold DVc
        rw [t28, e5, up2_s, k4 15 (by omega) (by decide) (by decide), k8 15 (by omega) (by decide) (by decide)]
      · rw [e8, up2_o (by decide), e7, up2_s, ye, k5 (80 + p) (by omega) (by omega) (by omega) (by omega), c80, eft]
    · have a := h3 p (by omega)
      unfold DVc at a ⊢
      rw [c25 _ (by omega), c28 _ (by omega), c22 p z, k8 14 (by omega) (by decide) (by decide), k8 15 (by omega) (by decide) (by decide)]
      exact a
/-! weigh -/
def SW6 (f : Nat → Int32) : Nat → Int64
  | 0 => 0
  | n + 1 => SW6 f n + (f n).toInt64
def mo6 (pa : Int32) (S : Int64) : Int := max 1 (((pa.toInt64 * S) / (100 : Int64)).toInt)
def wt6 (w : Int32) (m : Int) : Int32 := Int32.ofInt (min w.toInt m)
theorem wt6_T {w : Int32} {m : Int} (h : 1 ≤ m) : (wt6 w m).toInt = min w.toInt m := by
  have a := i32_lo w
  have b := i32_hi w
  exact ofI (by omega) (by omega)
def WG6 (σ s : SI) (hr : Int32) (m : Int) (n : Nat) : Prop := (∀ k, k ≠ 27 → s k = σ k) ∧ (∀ p, p < n → s 27 (24 * hr.toInt.toNat + p) = wt6 (σ 22 p) m) ∧ ∀ j, (∀ p, p < n → j ≠ 24 * hr.toInt.toNat + p) → s 27 j = σ 27 j
theorem WG6.st {σ : SI} {hr : Int32} {m : Int} : WG6 σ σ hr m 0 := ⟨fun _ _ => rfl, fun p hp => absurd hp (Nat.not_lt_zero p), fun _ _ => rfl⟩
theorem WG6.go {σ s s' : SI} {hr : Int32} {m : Int} {n : Nat} {v x5 : Int64} (h : WG6 σ s hr m n) (h1 : 1 ≤ m) (hx : x5.toInt = m) (hv : v.toInt = min ((s 22 n).toInt64).toInt x5.toInt) (e : s' = up2 s 27 (24 * hr.toInt.toNat + n) v.toInt32) : WG6 σ s' hr m (n + 1) := by
  obtain ⟨a, b, c⟩ := h
  have e22 : s 22 = σ 22 := a 22 (by decide)
  refine ⟨fun k hk => by rw [e, up2_ne hk]; exact a k hk, fun p hp => ?_, fun j hj => ?_⟩
  · by_cases z : p = n
    · subst z
      rw [e, up2_s]
      apply i32_ext
      have q1 := i32_lo (σ 22 p)
      have q2 := i32_hi (σ 22 p)
      rw [i2lI rfl, e22, hx] at hv
      rw [wt6_T h1, l2iI hv (by omega) (by omega)]
    · rw [e, up2_n (by omega)]
      exact b p (by omega)
  · have := hj n (by omega)
    rw [e, up2_n this]
    exact c j (fun p hp => hj p (by omega))
/-! the paper clock's sums -/
def SA6 (f w d : Nat → Int32) : Nat → Int64 × Int64
  | 0 => (0, 0)
  | n + 1 => if (f n).toInt = 2000000000 then SA6 f w d n else ((SA6 f w d n).1 + (w n).toInt64, (SA6 f w d n).2 + (w n).toInt64 * ((f n).toInt64 + (d n).toInt64))
theorem SA6_n {f w d : Nat → Int32} {n : Nat} (h : (f n).toInt = 2000000000) : SA6 f w d (n + 1) = SA6 f w d n := by
  show (if _ then _ else _) = _
  rw [if_pos h]
theorem SA6_s {f w d : Nat → Int32} {n : Nat} (h : (f n).toInt ≠ 2000000000) : SA6 f w d (n + 1) = ((SA6 f w d n).1 + (w n).toInt64, (SA6 f w d n).2 + (w n).toInt64 * ((f n).toInt64 + (d n).toInt64)) := by
  show (if _ then _ else _) = _
  rw [if_neg h]
abbrev rw6 (σ : SI) (k : Nat) (hr : Int32) (p : Nat) : Int32 := σ k (24 * hr.toInt.toNat + p)
abbrev SAc (σ : SI) (hr : Int32) (n : Nat) : Int64 × Int64 := SA6 (rw6 σ 25 hr) (rw6 σ 27 hr) (rw6 σ 28 hr) n
theorem rC_v {σ : SI} {k q : Nat} {hr : Int32} (h : 0 ≤ hr.toInt ∧ hr.toInt < 200) : rC σ k q hr.toInt = σ k (24 * hr.toInt.toNat + q) := by
  unfold rC
  rw [if_neg (by omega)]
theorem ofC_v {σ : SI} {wa hr : Int32} {q w : Nat} (hw : wa.toInt = (w : Int)) (w5 : w < 5) (hq : q < 24) (h : 0 ≤ hr.toInt ∧ hr.toInt < 200) : ofC σ wa hr (nI q) = σ (24 + w) (24 * hr.toInt.toNat + q) := by
  rw [ofC_r hw w5 hq, rC_v h]
theorem sac_n {σ : SI} {hr : Int32} {n : Nat} {x2 x4 : Int64} (h : (x2, x4) = SAc σ hr n) (c : (σ 25 (24 * hr.toInt.toNat + n)).toInt = 2000000000) : (x2, x4) = SAc σ hr (n + 1) := h.trans (SA6_n (f := rw6 σ 25 hr) (w := rw6 σ 27 hr) (d := rw6 σ 28 hr) (n := n) c).symm
theorem sac_s {σ : SI} {hr : Int32} {n : Nat} {x2 x4 y2 y4 : Int64} (h : (x2, x4) = SAc σ hr n) (c : (σ 25 (24 * hr.toInt.toNat + n)).toInt ≠ 2000000000) (e2 : y2 = x2 + (σ 27 (24 * hr.toInt.toNat + n)).toInt64) (e4 : y4 = x4 + (σ 27 (24 * hr.toInt.toNat + n)).toInt64 * ((σ 25 (24 * hr.toInt.toNat + n)).toInt64 + (σ 28 (24 * hr.toInt.toNat + n)).toInt64)) : (y2, y4) = SAc σ hr (n + 1) := by
  have h2 : x2 = (SAc σ hr n).1 := congrArg Prod.fst h
  have h4 : x4 = (SAc σ hr n).2 := congrArg Prod.snd h
  rw [show SAc σ hr (n + 1) = _ from SA6_s c, e2, e4, h2, h4]
/-- the sum of the WEIGHTS, the REST, and X of ROOT -/
def MP6 (σ s : SI) (hr : Int32) (v : Int64) : Prop :=
  (∀ k, k ≠ 31 → k ≠ 32 → s k = σ k) ∧ (∀ j, j ≠ hr.toInt.toNat → s 31 j = σ 31 j ∧ s 32 j = σ 32 j) ∧ s 31 hr.toInt.toNat = (SAc σ hr 24).1.toInt32 ∧
  ((0 < (SAc σ hr 24).1.toInt ∧ (-4000000000000000000 < (SAc σ hr 24).2.toInt → v.toInt = (SAc σ hr 24).2.toInt / (SAc σ hr 24).1.toInt ∧ ∃ r : Int64, r.toInt = (SAc σ hr 24).2.toInt % (SAc σ hr 24).1.toInt ∧ s 32 hr.toInt.toNat = r.toInt32)) ∨ ((SAc σ hr 24).1.toInt ≤ 0 ∧ v = 0 ∧ s 32 hr.toInt.toNat = 0))
theorem mp6_fr {σ s1 s2 : SI} {hr x y : Int32} (e1 : s1 = up2 σ 31 hr.toInt.toNat x) (e2 : s2 = up2 s1 32 hr.toInt.toNat y) : (∀ k, k ≠ 31 → k ≠ 32 → s2 k = σ k) ∧ (∀ j, j ≠ hr.toInt.toNat → s2 31 j = σ 31 j ∧ s2 32 j = σ 32 j) ∧ s2 31 hr.toInt.toNat = x ∧ s2 32 hr.toInt.toNat = y := by
  refine ⟨fun k a b => by rw [e2, up2_ne b, e1, up2_ne a], fun j hj => ⟨by rw [e2, up2_o (by decide), e1, up2_n hj], by rw [e2, up2_n hj, e1, up2_o (by decide)]⟩, by rw [e2, up2_o (by decide), e1, up2_s], by rw [e2, up2_s]⟩
theorem mp6_n {σ s1 s2 : SI} {hr : Int32} {x2 x4 : Int64} (h : (x2, x4) = SAc σ hr 24) (e1 : s1 = up2 σ 31 hr.toInt.toNat x2.toInt32) (e2 : s2 = up2 s1 32 hr.toInt.toNat 0) (c : x2.toInt ≤ 0) : MP6 σ s2 hr 0 := by
  have h2 : x2 = (SAc σ hr 24).1 := congrArg Prod.fst h
  obtain ⟨a, b, d, e⟩ := mp6_fr e1 e2
  rw [h2] at c d
  exact ⟨a, b, d, Or.inr ⟨c, rfl, e⟩⟩
theorem mp6_y {σ s1 s2 : SI} {hr : Int32} {x2 x4 r v : Int64} (h : (x2, x4) = SAc σ hr 24) (e1 : s1 = up2 σ 31 hr.toInt.toNat x2.toInt32) (e2 : s2 = up2 s1 32 hr.toInt.toNat r.toInt32) (c : 0 < x2.toInt) (fr : 0 < x2.toInt → -4000000000000000000 < x4.toInt → r.toInt = x4.toInt % x2.toInt) (fv : 0 < x2.toInt → -4000000000000000000 < x4.toInt → v.toInt = x4.toInt / x2.toInt) : MP6 σ s2 hr v := by
  have h2 : x2 = (SAc σ hr 24).1 := congrArg Prod.fst h
  have h4 : x4 = (SAc σ hr 24).2 := congrArg Prod.snd h
  obtain ⟨a, b, d, e⟩ := mp6_fr e1 e2
  rw [h2, h4] at fr fv
  rw [h2] at c d
  exact ⟨a, b, d, Or.inl ⟨c, fun q => ⟨fv c q, r, fr c q, e⟩⟩⟩
/-! X and what was MISSED -/
def cv6 (v : Int32) (y : Int64) : Prop := v.toInt = max (-30000) (min 30000 y.toInt)
def TW6 (σ s : SI) (hr : Int32) (xr : Int64) (n : Nat) : Prop :=
  (∀ k, k ≠ 24 → k ≠ 26 → s k = σ k) ∧ (∀ j, (∀ p, p < n → j ≠ 24 * hr.toInt.toNat + p) → s 24 j = σ 24 j ∧ s 26 j = σ 26 j) ∧
  ∀ p, p < n → ((rw6 σ 28 hr p).toInt = 2000000000 ∧ rw6 s 24 hr p = rw6 σ 24 hr p ∧ rw6 s 26 hr p = rw6 σ 26 hr p) ∨ ((rw6 σ 28 hr p).toInt ≠ 2000000000 ∧ rw6 s 24 hr p = (xr - (rw6 σ 28 hr p).toInt64).toInt32 ∧ (((rw6 σ 25 hr p).toInt = 2000000000 ∧ rw6 s 26 hr p = rw6 σ 26 hr p) ∨ ((rw6 σ 25 hr p).toInt ≠ 2000000000 ∧ cv6 (rw6 s 26 hr p) (xr - (rw6 σ 28 hr p).toInt64 - (rw6 σ 25 hr p).toInt64))))
theorem TW6.st {σ : SI} {hr : Int32} {xr : Int64} : TW6 σ σ hr xr 0 := ⟨fun _ _ _ => rfl, fun _ _ => ⟨rfl, rfl⟩, fun p hp => absurd hp (Nat.not_lt_zero p)⟩
theorem TW6.n {σ s : SI} {hr : Int32} {xr : Int64} {n : Nat} (h : TW6 σ s hr xr n) (c : (s 28 (24 * hr.toInt.toNat + n)).toInt = 2000000000) : TW6 σ s hr xr (n + 1) := by
  obtain ⟨h1, h2, h3⟩ := h
  refine ⟨h1, fun j hj => h2 j (fun p hp => hj p (by omega)), fun p hp => ?_⟩
  by_cases z : p = n
  · subst z
    have a := h2 (24 * hr.toInt.toNat + p) (fun p' hp' => by omega)
    rw [h1 28 (by decide) (by decide)] at c
    exact Or.inl ⟨c, a.1, a.2⟩
  · exact h3 p (by omega)
theorem TW6.x {σ s s1 s2 : SI} {hr : Int32} {xr x6 : Int64} {n : Nat} (h : TW6 σ s hr xr n) (c : (s 28 (24 * hr.toInt.toNat + n)).toInt ≠ 2000000000) (e6 : x6 = xr - (s 28 (24 * hr.toInt.toNat + n)).toInt64) (e1 : s1 = up2 s 24 (24 * hr.toInt.toNat + n) x6.toInt32)
    (hm : ((s 25 (24 * hr.toInt.toNat + n)).toInt = 2000000000 ∧ s2 = s1) ∨ ((s 25 (24 * hr.toInt.toNat + n)).toInt ≠ 2000000000 ∧ ∃ v, cv6 v (x6 - (s 25 (24 * hr.toInt.toNat + n)).toInt64) ∧ s2 = up2 s1 26 (24 * hr.toInt.toNat + n) v)) : TW6 σ s2 hr xr (n + 1) := by
  obtain ⟨h1, h2, h3⟩ := h
  have g1 : ∀ k, k ≠ 24 → s1 k = s k := fun k hk => by rw [e1]; exact up2_ne hk
  have gk : ∀ k, k ≠ 26 → s2 k = s1 k := fun k hk => by
    rcases hm with ⟨-, e⟩ | ⟨-, v, -, e⟩
    · rw [e]
    · rw [e]; exact up2_ne hk
  have g26 : ∀ j, j ≠ 24 * hr.toInt.toNat + n → s2 26 j = s 26 j := fun j hj => by
    rcases hm with ⟨-, e⟩ | ⟨-, v, -, e⟩
    · rw [e, g1 26 (by decide)]
    · rw [e, up2_n hj, g1 26 (by decide)]
  have g24 : ∀ j, j ≠ 24 * hr.toInt.toNat + n → s2 24 j = s 24 j := fun j hj => by rw [gk 24 (by decide), e1, up2_n hj]
  refine ⟨fun k a b => by rw [gk k b, g1 k a, h1 k a b], fun j hj => ?_, fun p hp => ?_⟩
  · have := hj n (by omega)
    rw [g24 j this, g26 j this]
    exact h2 j (fun p hp => hj p (by omega))
  · by_cases z : p = n
    · subst z
      right
      rw [h1 28 (by decide) (by decide)] at c e6
      refine ⟨c, ?_, ?_⟩
      · show s2 24 (24 * hr.toInt.toNat + p) = _
        rw [gk 24 (by decide), e1, up2_s, e6]
      · have a := h2 (24 * hr.toInt.toNat + p) (fun p' hp' => by omega)
        rw [h1 25 (by decide) (by decide)] at hm
        rcases hm with ⟨m1, e⟩ | ⟨m1, v, m2, e⟩
        · refine Or.inl ⟨m1, ?_⟩
          show s2 26 (24 * hr.toInt.toNat + p) = _
          rw [e, g1 26 (by decide)]
          exact a.2
        · refine Or.inr ⟨m1, ?_⟩
          rw [e6] at m2
          show cv6 (s2 26 (24 * hr.toInt.toNat + p)) _
          rw [e, up2_s]
          exact m2
    · have a := h3 p (by omega)
      have q24 : rw6 s2 24 hr p = rw6 s 24 hr p := g24 _ (by omega)
      have q26 : rw6 s2 26 hr p = rw6 s 26 hr p := g26 _ (by omega)
      rw [q24, q26]
      exact a
/-! ===== steps and drifts, as the class tells them ===== -/
abbrev JW6 (f : Int → Int32) (rc : Int) (hr : Int32) (q : Nat) (ti m : Int32) (c7 c9 c10 : Int32) (S : St6) (d7 d9 d10 : Int32) (S' : St6) : Prop :=
  (c9.toInt = hr.toInt - 1 ∧ ((f (hr.toInt - 1)).toInt ≠ 2000000000 ∧ ST6 (f (hr.toInt - 1)) m) ∧ d7 = 1 ∧ d9 = c9 ∧ d10 = c10 + 1 ∧ S' = ad6 S (hr - 1) (nI q) (f (hr.toInt - 1))) ∨
   (c9.toInt = hr.toInt - 1 ∧ ¬ ((f (hr.toInt - 1)).toInt ≠ 2000000000 ∧ ST6 (f (hr.toInt - 1)) m) ∧ d7 = c7 ∧ d9 = c9 ∧ d10 = c10 ∧ S' = S) ∨
   (c9.toInt ≠ hr.toInt - 1 ∧ LM6 f rc hr.toInt ti m ∧ d7 = c7 ∧ d9 = hr ∧ d10 = c10 ∧ S' = S) ∨
   (c9.toInt ≠ hr.toInt - 1 ∧ ¬ LM6 f rc hr.toInt ti m ∧ d7 = c7 ∧ d9 = c9 ∧ d10 = c10 ∧ S' = S)
def JV6 (f : Int → Int32) (rc : Int) (hr : Int32) (q : Nat) (ti m : Int32) (c7 c9 c10 c11 : Int32) (S : St6) (d7 d9 d10 d11 : Int32) (S' : St6) : Prop :=
  d11 = (if DR6 f hr.toInt m then c11 + 1 else c11) ∧ JW6 f rc hr q ti m c7 c9 c10 S d7 d9 d10 S'
/-- a clock that was SUSPECT -/
def JS6 (σ s : SI) (q : Nat) (hr m : Int32) : Prop :=
  (∀ k, k ≠ 80 + q → ¬ (8 ≤ k ∧ k ≤ 11) → s k = σ k) ∧ (∀ j, j ≠ 7 → j ≠ 10 → s (80 + q) j = σ (80 + q) j) ∧
  ((((xC σ 26 q (hr.toInt - 1)).toInt ≠ 2000000000 ∧ ST6 (xC σ 26 q (hr.toInt - 1)) m) ∧ s (80 + q) 7 = 1 ∧ s (80 + q) 10 = σ (80 + q) 10 + 1 ∧ stC s = ad6 (stC σ) (hr - 1) (nI q) (xC σ 26 q (hr.toInt - 1))) ∨
   (¬ ((xC σ 26 q (hr.toInt - 1)).toInt ≠ 2000000000 ∧ ST6 (xC σ 26 q (hr.toInt - 1)) m) ∧ s (80 + q) 7 = σ (80 + q) 7 ∧ s (80 + q) 10 = σ (80 + q) 10 ∧ stC s = stC σ))
theorem hf6 {a : Int32} (h : 0 ≤ a.toInt) : (a / (2 : Int32)).toInt = a.toInt / 2 := by
  have h2 := i32_hi a
  have e : (2 : Int32).toInt = 2 := by decide
  rw [Int32.toInt_div, e, Int.tdiv_eq_ediv_of_nonneg h]
  exact bm32 (by omega) (by omega)
theorem st_c {b m vb vm : Int32} (hb : b.toInt = 2000000000 ∨ (-30000 ≤ b.toInt ∧ b.toInt ≤ 30000)) (hm : -30000 ≤ m.toInt ∧ m.toInt ≤ 30000) (ab : vb = if 0 ≤ b.toInt then b else -b) (am : vm = if 0 ≤ m.toInt then m else -m) : vm.toInt = (m.toInt.natAbs : Int) ∧ ((vb + 1) / (2 : Int32)).toInt = ((b.toInt.natAbs : Int) + 1) / 2 := by
  have e1 : (1 : Int32).toInt = 1 := by decide
  have eb : vb.toInt = (b.toInt.natAbs : Int) := by
    rcases hb with h | h
    · rw [ab, if_pos (by omega)]
      omega
    · exact abv h ab
  have e2 : (vb + 1).toInt = (b.toInt.natAbs : Int) + 1 := by
    rw [addI eb e1 (by omega) (by omega)]
  exact ⟨abv hm am, by rw [hf6 (by omega), e2]⟩
theorem js_y {σ s1 s2 s3 : SI} {q : Nat} {hr m b : Int32} (hq : q < 24) (eb : b = xC σ 26 q (hr.toInt - 1)) (n : b.toInt ≠ 2000000000) (st : ST6 b m) (e1 : s1 = up2 σ (80 + q) 7 1) (e2 : s2 = up2 s1 (80 + q) 10 (s1 (80 + q) 10 + 1)) (r : Fr (fun k => 8 ≤ k ∧ k ≤ 11) s2 s3) (es : stC s3 = ad6 (stC s2) (hr - 1) (nI q) b) : JS6 σ s3 q hr m := by
  subst eb
  have g : ∀ k, k ≠ 80 + q → s2 k = σ k := fun k hk => by rw [e2, up2_ne hk, e1, up2_ne hk]
  have e : stC s2 = stC σ := by
    unfold stC
    rw [g 8 (by omega), g 9 (by omega), g 10 (by omega), g 11 (by omega)]
  rw [e] at es
  refine ⟨fun k h1 h2 => by rw [r k (by omega), g k h1], fun j h7 h10 => by rw [r (80 + q) (by omega), e2, up2_n h10, e1, up2_n h7], Or.inl ⟨⟨n, st⟩, ?_, ?_, es⟩⟩
  · rw [r (80 + q) (by omega), e2, up2_n (by decide), e1, up2_s]
  · rw [r (80 + q) (by omega), e2, up2_s, e1, up2_n (by decide)]
theorem js_n {σ : SI} {q : Nat} {hr m b : Int32} (eb : b = xC σ 26 q (hr.toInt - 1)) (n : ¬ (b.toInt ≠ 2000000000 ∧ ST6 b m)) : JS6 σ σ q hr m := by
  subst eb
  exact ⟨fun _ _ _ => rfl, fun _ _ _ => rfl, Or.inr ⟨n, rfl, rfl, rfl⟩⟩
def JJ6 (σ s : SI) (q : Nat) (hr m ti : Int32) : Prop :=
  (∀ k, k ≠ 80 + q → ¬ (8 ≤ k ∧ k ≤ 11) → ¬ (18 ≤ k ∧ k ≤ 20) → s k = σ k) ∧ (∀ j, (j < 7 ∨ j = 8) → s (80 + q) j = σ (80 + q) j) ∧
  JV6 (xC σ 26 q) (σ (80 + q) 3).toInt hr q ti m (σ (80 + q) 7) (σ (80 + q) 9) (σ (80 + q) 10) (σ (80 + q) 11) (stC σ) (s (80 + q) 7) (s (80 + q) 9) (s (80 + q) 10) (s (80 + q) 11) (stC s)
abbrev Hd6 (σ s1 : SI) (q : Nat) (hr m : Int32) : Prop := (DR6 (xC σ 26 q) hr.toInt m ∧ s1 = up2 σ (80 + q) 11 (σ (80 + q) 11 + 1)) ∨ (¬ DR6 (xC σ 26 q) hr.toInt m ∧ s1 = σ)
theorem hd_k {σ s1 : SI} {q : Nat} {hr m : Int32} (hq : q < 24) (hd : Hd6 σ s1 q hr m) : (∀ k, k ≠ 80 + q → s1 k = σ k) ∧ (∀ j, j ≠ 11 → s1 (80 + q) j = σ (80 + q) j) ∧ s1 (80 + q) 11 = (if DR6 (xC σ 26 q) hr.toInt m then σ (80 + q) 11 + 1 else σ (80 + q) 11) ∧ stC s1 = stC σ ∧ xC s1 26 q = xC σ 26 q := by
  have k : (∀ k, k ≠ 80 + q → s1 k = σ k) ∧ (∀ j, j ≠ 11 → s1 (80 + q) j = σ (80 + q) j) ∧ s1 (80 + q) 11 = (if DR6 (xC σ 26 q) hr.toInt m then σ (80 + q) 11 + 1 else σ (80 + q) 11) := by
    rcases hd with ⟨d, e⟩ | ⟨d, e⟩
    · rw [if_pos d, e]
      exact ⟨fun k hk => up2_ne hk, fun j hj => up2_n hj, up2_s⟩
    · rw [if_neg d, e]
      exact ⟨fun _ _ => rfl, fun _ _ => rfl, rfl⟩
  refine ⟨k.1, k.2.1, k.2.2, ?_, xC_ex (k.2.1 8 (by decide)) (k.1 26 (by omega))⟩
  unfold stC
  rw [k.1 8 (by omega), k.1 9 (by omega), k.1 10 (by omega), k.1 11 (by omega)]
theorem jj_s {σ s1 s2 : SI} {q : Nat} {hr m ti : Int32} (hq : q < 24) (hd : Hd6 σ s1 q hr m) (c : (s1 (80 + q) 9).toInt = hr.toInt - 1) (hj : JS6 s1 s2 q hr m) : JJ6 σ s2 q hr m ti := by
  obtain ⟨k1, k2, k3, k4, k5⟩ := hd_k hq hd
  obtain ⟨a1, a2, a3⟩ := hj
  rw [k5, k4, k2 7 (by decide), k2 10 (by decide)] at a3
  rw [k2 9 (by decide)] at c
  refine ⟨fun k h1 h2 _ => (a1 k h1 h2).trans (k1 k h1), fun j hj => (a2 j (by omega) (by omega)).trans (k2 j (by omega)), (a2 11 (by decide) (by decide)).trans k3, ?_⟩
  have e9 : s2 (80 + q) 9 = σ (80 + q) 9 := (a2 9 (by decide) (by decide)).trans (k2 9 (by decide))
  rcases a3 with ⟨b1, b2, b3, b4⟩ | ⟨b1, b2, b3, b4⟩
  · exact Or.inl ⟨c, b1, b2, e9, b3, b4⟩
  · exact Or.inr (Or.inl ⟨c, b1, b2, e9, b3, b4⟩)
theorem jj_l {σ s1 s2 s3 : SI} {q : Nat} {hr m ti va : Int32} (hq : q < 24) (hd : Hd6 σ s1 q hr m) (c : (s1 (80 + q) 9).toInt ≠ hr.toInt - 1) (r : Fr (fun k => 18 ≤ k ∧ k ≤ 20) s1 s2) (hb : -30000 ≤ m.toInt ∧ m.toInt ≤ 30000) (am : va = if 0 ≤ m.toInt then m else -m) (cl : (ti.toInt64 * (UM6 (xC s1 26 q) (s1 (80 + q) 3).toInt hr.toInt + 1)).toInt < va.toInt) (e3 : s3 = up2 s2 (80 + q) 9 hr) : JJ6 σ s3 q hr m ti := by
  obtain ⟨k1, k2, k3, k4, k5⟩ := hd_k hq hd
  rw [k5, k2 3 (by decide), abv hb am] at cl
  rw [k2 9 (by decide)] at c
  have g : ∀ k, k ≠ 80 + q → ¬ (18 ≤ k ∧ k ≤ 20) → s3 k = σ k := fun k h1 h2 => by rw [e3, up2_ne h1, r k h2, k1 k h1]
  have gq : ∀ j, j ≠ 9 → s3 (80 + q) j = s1 (80 + q) j := fun j hj => by rw [e3, up2_n hj, r (80 + q) (by omega)]
  refine ⟨fun k h1 _ h3 => g k h1 h3, fun j hj => (gq j (by omega)).trans (k2 j (by omega)), (gq 11 (by decide)).trans k3, Or.inr (Or.inr (Or.inl ⟨c, cl, (gq 7 (by decide)).trans (k2 7 (by decide)), by rw [e3, up2_s], (gq 10 (by decide)).trans (k2 10 (by decide)), ?_⟩))⟩
  unfold stC
  rw [g 8 (by omega) (by omega), g 9 (by omega) (by omega), g 10 (by omega) (by omega), g 11 (by omega) (by omega)]
theorem jj_n {σ s1 s2 : SI} {q : Nat} {hr m ti va : Int32} (hq : q < 24) (hd : Hd6 σ s1 q hr m) (c : (s1 (80 + q) 9).toInt ≠ hr.toInt - 1) (r : Fr (fun k => 18 ≤ k ∧ k ≤ 20) s1 s2) (hb : -30000 ≤ m.toInt ∧ m.toInt ≤ 30000) (am : va = if 0 ≤ m.toInt then m else -m) (cl : va.toInt ≤ (ti.toInt64 * (UM6 (xC s1 26 q) (s1 (80 + q) 3).toInt hr.toInt + 1)).toInt) : JJ6 σ s2 q hr m ti := by
  obtain ⟨k1, k2, k3, k4, k5⟩ := hd_k hq hd
  rw [k5, k2 3 (by decide), abv hb am] at cl
  rw [k2 9 (by decide)] at c
  have g : ∀ k, k ≠ 80 + q → ¬ (18 ≤ k ∧ k ≤ 20) → s2 k = σ k := fun k h1 h2 => by rw [r k h2, k1 k h1]
  have gq : s2 (80 + q) = s1 (80 + q) := r (80 + q) (by omega)
  refine ⟨fun k h1 _ h3 => g k h1 h3, fun j hj => by rw [gq]; exact k2 j (by omega), by rw [gq]; exact k3, Or.inr (Or.inr (Or.inr ⟨c, by show ¬ (_ < _); omega, by rw [gq]; exact k2 7 (by decide), by rw [gq]; exact k2 9 (by decide), by rw [gq]; exact k2 10 (by decide), ?_⟩))⟩
  unfold stC
  rw [g 8 (by omega) (by omega), g 9 (by omega) (by omega), g 10 (by omega) (by omega), g 11 (by omega) (by omega)]
/-- who is judged -/
abbrev Jd6 (σ : SI) (hr : Int32) (p : Nat) : Prop := (0 ≤ (σ 2 p).toInt ∧ (σ 2 p).toInt ≤ 3) ∧ (σ (80 + p) 7).toInt = 0 ∧ (rw6 σ 26 hr p).toInt ≠ 2000000000
abbrev JVc (σ s : SI) (hr ti : Int32) (p : Nat) (S S' : St6) : Prop := JV6 (xC σ 26 p) (σ (80 + p) 3).toInt hr p ti (rw6 σ 26 hr p) (σ (80 + p) 7) (σ (80 + p) 9) (σ (80 + p) 10) (σ (80 + p) 11) S (s (80 + p) 7) (s (80 + p) 9) (s (80 + p) 10) (s (80 + p) 11) S'
def JA6 (σ s : SI) (hr ti : Int32) (n : Nat) : Prop :=
  (∀ k, ¬ (8 ≤ k ∧ k ≤ 11) → ¬ (18 ≤ k ∧ k ≤ 20) → ¬ (80 ≤ k ∧ k < 104) → s k = σ k) ∧ (∀ q j, q < 24 → (j < 7 ∨ j = 8) → s (80 + q) j = σ (80 + q) j) ∧ (∀ p, n ≤ p → p < 24 → s (80 + p) = σ (80 + p)) ∧
  ∃ S : Nat → St6, S 0 = stC σ ∧ stC s = S n ∧ ∀ p, p < n → (Jd6 σ hr p ∧ JVc σ s hr ti p (S p) (S (p + 1))) ∨ (¬ Jd6 σ hr p ∧ s (80 + p) = σ (80 + p) ∧ S (p + 1) = S p)
theorem JA6.st {σ : SI} {hr ti : Int32} : JA6 σ σ hr ti 0 := ⟨fun _ _ _ _ => rfl, fun _ _ _ _ => rfl, fun _ _ _ => rfl, fun _ => stC σ, rfl, rfl, fun p hp => absurd hp (Nat.not_lt_zero p)⟩
theorem JA6.sk {σ s : SI} {hr ti : Int32} {n : Nat} (h : JA6 σ s hr ti n) (hn : n < 24) (c : ¬ Jd6 σ hr n) : JA6 σ s hr ti (n + 1) := by
  obtain ⟨h1, h2, h3, S, h4, h5, h6⟩ := h
  refine ⟨h1, h2, fun p hp hp2 => h3 p (by omega) hp2, fun i => if i ≤ n then S i else S n, ?_, ?_, fun p hp => ?_⟩
  · show (if 0 ≤ n then S 0 else S n) = _
    rw [if_pos (Nat.zero_le n)]
    exact h4
  · show _ = (if n + 1 ≤ n then S (n + 1) else S n)
    rw [if_neg (by omega)]
    exact h5
  · by_cases z : p = n
    · subst z
      refine Or.inr ⟨c, h3 p (Nat.le_refl p) hn, ?_⟩
      show (if p + 1 ≤ p then S (p + 1) else S p) = (if p ≤ p then S p else S p)
      rw [if_neg (by omega), if_pos (Nat.le_refl p)]
    · have a := h6 p (by omega)
      show (Jd6 σ hr p ∧ JVc σ s hr ti p (if p ≤ n then S p else S n) (if p + 1 ≤ n then S (p + 1) else S n)) ∨ (¬ Jd6 σ hr p ∧ s (80 + p) = σ (80 + p) ∧ (if p + 1 ≤ n then S (p + 1) else S n) = (if p ≤ n then S p else S n))
      rw [if_pos (by omega), if_pos (by omega)]
      exact a
theorem JA6.go {σ s s' : SI} {hr ti m : Int32} {n : Nat} (h : JA6 σ s hr ti n) (hn : n < 24) (c : Jd6 σ hr n) (hm : m = rw6 σ 26 hr n) (hj : JJ6 s s' n hr m ti) : JA6 σ s' hr ti (n + 1) := by
  obtain ⟨h1, h2, h3, S, h4, h5, h6⟩ := h
  obtain ⟨j1, j2, j3⟩ := hj
  have e80 := h3 n (Nat.le_refl n) hn
  have xe : xC s 26 n = xC σ 26 n := xC_ex (by rw [e80]) (h1 26 (by omega) (by omega) (by omega))
  rw [xe, e80, h5, hm] at j3
  have o80 : ∀ p, p ≠ n → s' (80 + p) = s (80 + p) := fun p hp => by
    by_cases g : (8 ≤ 80 + p ∧ 80 + p ≤ 11) ∨ (18 ≤ 80 + p ∧ 80 + p ≤ 20)
    · omega
    · exact j1 (80 + p) (by omega) (by omega) (by omega)
  refine ⟨fun k a b d => (j1 k (by omega) a b).trans (h1 k a b d), fun q j hq hj => ?_, fun p hp hp2 => (o80 p (by omega)).trans (h3 p (by omega) hp2), fun i => if i ≤ n then S i else stC s', ?_, ?_, fun p hp => ?_⟩
  · by_cases z : q = n
    · subst z
      exact (j2 j hj).trans (h2 q j hq hj)
    · rw [o80 q z]
      exact h2 q j hq hj
  · show (if 0 ≤ n then S 0 else _) = _
    rw [if_pos (Nat.zero_le n)]
    exact h4
  · show _ = (if n + 1 ≤ n then S (n + 1) else stC s')
    rw [if_neg (by omega)]
  · by_cases z : p = n
    · subst z
      refine Or.inl ⟨c, ?_⟩
      show JVc σ s' hr ti p (if p ≤ p then S p else stC s') (if p + 1 ≤ p then S (p + 1) else stC s')
      rw [if_pos (Nat.le_refl p), if_neg (by omega)]
      exact j3
    · have a := h6 p (by omega)
      show (Jd6 σ hr p ∧ JVc σ s' hr ti p (if p ≤ n then S p else stC s') (if p + 1 ≤ n then S (p + 1) else stC s')) ∨ (¬ Jd6 σ hr p ∧ s' (80 + p) = σ (80 + p) ∧ (if p + 1 ≤ n then S (p + 1) else stC s') = (if p ≤ n then S p else stC s'))
      rw [if_pos (by omega), if_pos (by omega)]
      unfold JVc at a ⊢
      rw [o80 p z]
      exact a
/-- the whole closing of an hour that has a ROOT, state by state -/
def CHX6 (σ s : SI) (hr pa ti : Int32) (v : Int32) : Prop :=
  ∃ (rq : Nat) (s0 s1 s2 s3 s4 s5 : SI) (xr : Int64), rq < 24 ∧ (TkC σ rq ∧ ∀ i, i < rq → ¬ TkC σ i) ∧ s0 = up2 σ 21 6 0 ∧ HI s0 s1 rq hr 24 ∧ HO6 s0 s1 rq hr 24 ∧ WG6 s1 s2 hr (mo6 pa (SW6 (s1 22) 24)) 24 ∧ MP6 s2 s3 hr xr ∧ TW6 s3 s4 hr xr 24 ∧ JA6 s4 s5 hr ti 24 ∧
    s = up2 (up2 (up2 s5 29 hr.toInt.toNat (nI rq)) 30 hr.toInt.toNat (s5 21 6)) 34 hr.toInt.toNat pa ∧ v = s5 21 6
/-! ===== the class's closing as a whole ===== -/
theorem xC_v {σ : SI} {k q : Nat} {hr : Int32} (h : (σ (80 + q) 8).toInt ≤ hr.toInt) (h2 : 0 ≤ hr.toInt ∧ hr.toInt < 200) : xC σ k q hr.toInt = σ k (24 * hr.toInt.toNat + q) := by
  rw [xC_r h, rC_v h2]
theorem KM6.hd {σ s1 : SI} {q : Nat} {hr m : Int32} (h : KM6 σ q hr) (hq : q < 24) (hd : Hd6 σ s1 q hr m) : KM6 s1 q hr := by
  obtain ⟨k1, k2, -⟩ := hd_k hq hd
  exact h.ex (k2 3 (by decide)) (k2 8 (by decide)) (k1 26 (by omega))
def HK6 (σ : SI) (hr : Int32) : Prop := ∀ p, p < 24 → 0 ≤ (σ 2 p).toInt ∧ (σ 2 p).toInt ≤ 3 → KQ6 σ p hr
def HJ6 (σ : SI) (hr : Int32) : Prop := ∀ p, p < 24 → 0 ≤ (σ 2 p).toInt ∧ (σ 2 p).toInt ≤ 3 → KM6 σ p hr
theorem HK6.u21 {σ s : SI} {hr x : Int32} (h : HK6 σ hr) (e : s = up2 σ 21 6 x) : HK6 s hr := by
  intro p hp hk
  have g : ∀ k, k ≠ 21 → s k = σ k := fun k hk => by rw [e]; exact up2_ne hk
  rw [g 2 (by decide)] at hk
  exact (h p hp hk).ex (by rw [g (80 + p) (by omega)]) (by rw [g (80 + p) (by omega)]) (by rw [g (80 + p) (by omega)]) (g 24 (by decide)) (g 26 (by decide))
theorem HJ6.tx {σ s1 s2 s3 s4 : SI} {rq : Nat} {hr : Int32} {m : Int} {xr : Int64} (h : HK6 σ hr) (hh : 0 ≤ hr.toInt ∧ hr.toInt < 200) (a : HO6 σ s1 rq hr 24) (b : WG6 s1 s2 hr m 24) (c : MP6 s2 s3 hr xr) (d : TW6 s3 s4 hr xr 24) : HJ6 s4 hr := by
  intro p hp hk
  have g : ∀ k, ¬ (12 ≤ k ∧ k ≤ 22) → ¬ (24 ≤ k ∧ k ≤ 34) → s4 k = σ k := fun k h1 h2 => by
    rw [d.1 k (by omega) (by omega), c.1 k (by omega) (by omega), b.1 k (by omega), a.1 k (by omega) (by omega) (by omega)]
  rw [g 2 (by omega) (by omega)] at hk
  obtain ⟨k1, k2, k3, k4, k5⟩ := h p hp hk
  have e80 : s4 (80 + p) = σ (80 + p) := g (80 + p) (by omega) (by omega)
  have e26 : s3 26 = σ 26 := by rw [c.1 26 (by decide) (by decide), b.1 26 (by decide), a.1 26 (by omega) (by decide) (by decide)]
  refine ⟨by rw [e80]; exact k2, by rw [e80]; exact k3, fun t => ?_⟩
  have old := k5 t
  unfold xC at old ⊢
  rw [e80]
  by_cases z : t < (σ (80 + p) 8).toInt
  · rw [if_pos z]
    exact Or.inl (by decide)
  · rw [if_neg z] at old ⊢
    unfold rC at old ⊢
    by_cases z2 : t < 0 ∨ 200 ≤ t
    · rw [if_pos z2]
      exact Or.inl (by decide)
    · rw [if_neg z2] at old ⊢
      by_cases z3 : t = hr.toInt
      · subst z3
        have keep : rw6 s4 26 hr p = rw6 s3 26 hr p → (s4 26 (24 * hr.toInt.toNat + p)).toInt = 2000000000 ∨ (-30000 ≤ (s4 26 (24 * hr.toInt.toNat + p)).toInt ∧ (s4 26 (24 * hr.toInt.toNat + p)).toInt ≤ 30000) := fun w => by
          have w : s4 26 (24 * hr.toInt.toNat + p) = s3 26 (24 * hr.toInt.toNat + p) := w
          rw [w, e26]
          exact old
        rcases d.2.2 p hp with ⟨-, -, w⟩ | ⟨-, -, ⟨-, w⟩ | ⟨-, w⟩⟩
        · exact keep w
        · exact keep w
        · have w : (s4 26 (24 * hr.toInt.toNat + p)).toInt = max (-30000) (min 30000 _) := w
          exact Or.inr (by omega)
      · rw [(d.2.1 (24 * t.toNat + p) (fun p' hp' => by omega)).2, e26]
        exact old
def CH6 (σ s : SI) (hr pa ti v : Int32) : Prop := (v = 0 ∧ (∀ p, p < 24 → ¬ TkC σ p) ∧ s = up2 σ 21 6 0) ∨ CHX6 σ s hr pa ti v
theorem ch_z {σ s : SI} {hr pa ti : Int32} (hs : s = up2 σ 21 6 0) (h : ∀ p, p < 24 → ¬ TkC s p) : CH6 σ s hr pa ti (s 21 6) :=
  Or.inl ⟨by rw [hs, up2_s], fun p hp t => h p hp ((tk_21 hs).mpr t), hs⟩
theorem ch_x {σ s0 s1 s2 s3 s4 s5 s6 s7 s8 : SI} {hr pa ti : Int32} {j : Nat} {xr : Int64} (hs : s0 = up2 σ 21 6 0) (hj : j < 24) (tk : TkC s0 j ∧ ∀ i, i < j → ¬ TkC s0 i) (a : HI s0 s1 j hr 24) (b : HO6 s0 s1 j hr 24) (c : WG6 s1 s2 hr (mo6 pa (SW6 (s1 22) 24)) 24) (d : MP6 s2 s3 hr xr) (e : TW6 s3 s4 hr xr 24) (f : JA6 s4 s5 hr ti 24)
    (p1 : s6 = up2 s5 29 hr.toInt.toNat (nI j)) (p2 : s7 = up2 s6 30 hr.toInt.toNat (s6 21 6)) (p3 : s8 = up2 s7 34 hr.toInt.toNat pa) : CH6 σ s8 hr pa ti (s8 21 6) := by
  have e1 : s6 21 6 = s5 21 6 := by rw [p1]; exact up2_o (by decide)
  have e2 : s8 21 6 = s5 21 6 := by rw [p3, up2_o (by decide), p2, up2_o (by decide)]; exact e1
  rw [e1] at p2
  rw [e2, p3, p2, p1]
  exact Or.inr ⟨j, s0, s1, s2, s3, s4, s5, xr, hj, ⟨(tk_21 hs).mp tk.1, fun i hi t => tk.2 i hi ((tk_21 hs).mpr t)⟩, hs, a, b, c, d, e, f, rfl, rfl⟩
def CX6 (σ s : SI) (v : Int32) : Prop :=
  ∃ s1 s2 s3 : SI, CH6 σ s1 (σ 0 8) (σ 0 9) (σ 0 10) v ∧ (∀ k, k ≠ 0 → s2 k = s1 k) ∧ (∀ j, j ≠ 12 → s2 0 j = σ 0 j) ∧ ((0 < v.toInt ∧ s3 = up2 s2 33 (σ 0 8).toInt.toNat (s2 0 12)) ∨ (v.toInt ≤ 0 ∧ s3 = s2)) ∧ s = up2 s3 0 8 (σ 0 8 + 1)
theorem cx_y {σ s1 s2 s3 s : SI} {v : Int32} (c : CH6 σ s1 (σ 0 8) (σ 0 9) (σ 0 10) v) (h1 : CF σ s1) (h2 : Fr (fun k => k = 0) s1 s2) (h3 : ∀ j, j ≠ 12 → s2 0 j = s1 0 j) (hv : 0 < v.toInt) (e3 : s3 = up2 s2 33 (s2 0 8).toInt.toNat (s2 0 12)) (e4 : s = up2 s3 0 8 (s3 0 8 + 1)) : CX6 σ s v := by
  have e0 : ∀ j, j ≠ 12 → s2 0 j = σ 0 j := fun j hj => by rw [h3 j hj, h1.1 0 (by omega)]
  have e8 : s3 0 8 = σ 0 8 := by rw [e3, up2_o (by decide)]; exact e0 8 (by decide)
  rw [e0 8 (by decide)] at e3
  rw [e8] at e4
  exact ⟨s1, s2, s3, c, fun k hk => h2 k hk, e0, Or.inl ⟨hv, e3⟩, e4⟩
theorem cx_n {σ s1 s2 s : SI} {v : Int32} (c : CH6 σ s1 (σ 0 8) (σ 0 9) (σ 0 10) v) (h1 : CF σ s1) (h2 : Fr (fun k => k = 0) s1 s2) (h3 : ∀ j, j ≠ 12 → s2 0 j = s1 0 j) (hv : v.toInt ≤ 0) (e4 : s = up2 s2 0 8 (s2 0 8 + 1)) : CX6 σ s v := by
  have e0 : ∀ j, j ≠ 12 → s2 0 j = σ 0 j := fun j hj => by rw [h3 j hj, h1.1 0 (by omega)]
  rw [e0 8 (by decide)] at e4
  exact ⟨s1, s2, s2, c, fun k hk => h2 k hk, e0, Or.inr ⟨hv, rfl⟩, e4⟩
abbrev po6_X6_add (σ : SI) (τ : SL) (hr : Int32) (pl : Int32) (xa : Int32) : SI × SL → Prop := fun u => ((CG σ u.1) ∧ (Fr (fun k => 8 ≤ k ∧ k ≤ 11) σ u.1) ∧ (stC u.1 = ad6 (stC σ) hr pl xa))
set_option maxRecDepth 100000 in
set_option maxHeartbeats 4000000 in
theorem c6_X6_add (l : Launch) {G : Gx} {A : Nat → Prop} (hG : GOk G A) (σ : SI) (τ : SL) (hr : Int32) (pl : Int32) (xa : Int32) : MV l G A 0 yX6_add cX6_add 4 none [.ref (G.2.1 8), .int hr, .int pl, .int xa] (σ, τ) (po6_X6_add σ τ hr pl xa) := by
  refine met_of (own := RX6) (by decide +kernel) rfl [(0, .ref (G.2.1 8)), (1, .int hr), (2, .int pl), (3, .int xa)] rfl (Nat.le_of_ble_eq_true rfl) ?_
  intro p e s m args below meth c ls hC hK hR hl
  have hS : va_S A s.heap s.heap [] := va_S.rf
  refine lv_aload_n hC.x hC.b dX6_add_0 rfl (lv_at hl 0 rfl) ?_
  refine rget hC hK hR (ct_steps G _ _) rfl uin_X6 3 (by decide) TF_X6_21 rfl dX6_add_1 ?_
  refine bz_lt (tgt := 16) (a := (σ 8 3).toInt) (b := 0) hC.x hC.b rfl rfl dX6_add_4 (by decide) (fun c_1 => ?_) (fun c_1 => ?_)
  · skip
    exact retv hC hK hR hS (⟨by exact CG.rf, by (try dsimp only); first | exact (((Fr.rf.up (by omega)).up (by omega)).up (by omega)).up (by omega) | exact Fr.rf, by (try dsimp only); first | exact ad6_n (by omega) | exact ad6_y (by assumption) (by assumption) (by assumption) (by assumption) (by omega)⟩) dX6_add_16
  · skip
    refine lv_aload_n hC.x hC.b dX6_add_7 rfl (lv_at hl 0 rfl) ?_
    refine rget hC hK hR (ct_steps G _ _) rfl uin_X6 3 (by decide) TF_X6_21 rfl dX6_add_8 ?_
    refine lv_bipush (v := 100) hC.x hC.b dX6_add_11 (by decide) ?_
    refine bi_lt (tgt := 17) (a := (σ 8 3).toInt) (b := 100) hC.x hC.b rfl rfl dX6_add_13 (by decide) (fun c_2 => ?_) (fun c_2 => ?_)
    · skip
      refine lv_aload_n hC.x hC.b dX6_add_17 rfl (lv_at hl 0 rfl) ?_
      refine rget hC hK hR (ct_steps G _ _) rfl uin_X6 0 (by decide) TF_X6_9 rfl dX6_add_18 ?_
      refine lv_aload_n hC.x hC.b dX6_add_21 rfl (lv_at hl 0 rfl) ?_
      refine rget hC hK hR (ct_steps G _ _) rfl uin_X6 3 (by decide) TF_X6_21 rfl dX6_add_22 ?_
      refine lv_iload_n hC.x hC.b dX6_add_25 rfl (lv_at hl 1 rfl) ?_
      refine ast hC hK hG hR hS (fun _ => ct_hours G _ _) rfl (by omega) (by omega) rfl dX6_add_26 (fun s_3 es_4 H locs hR hS => ?_)
      refine lv_aload_n hC.x hC.b dX6_add_27 rfl (lv_at hl 0 rfl) ?_
      refine rget hC hK hR (ct_steps G _ _) rfl uin_X6 1 (by decide) TF_X6_15 rfl dX6_add_28 ?_
      refine lv_aload_n hC.x hC.b dX6_add_31 rfl (lv_at hl 0 rfl) ?_
      refine rget hC hK hR (ct_steps G _ _) rfl uin_X6 3 (by decide) TF_X6_21 rfl dX6_add_32 ?_
      have rd_5 : (s_3 8 3).toInt = (σ 8 3).toInt := congrArg Int32.toInt (show s_3 8 3 = σ 8 3 from (by rw [es_4]; exact up2_o (by omega)))
      refine lv_iload_n hC.x hC.b dX6_add_35 rfl (lv_at hl 2 rfl) ?_
      refine ast hC hK hG hR hS (fun _ => ct_places G _ _) rfl (by omega) (by omega) rfl dX6_add_36 (fun s_6 es_7 H locs hR hS => ?_)
      refine lv_aload_n hC.x hC.b dX6_add_37 rfl (lv_at hl 0 rfl) ?_
      refine rget hC hK hR (ct_steps G _ _) rfl uin_X6 2 (by decide) TF_X6_18 rfl dX6_add_38 ?_
      refine lv_aload_n hC.x hC.b dX6_add_41 rfl (lv_at hl 0 rfl) ?_
      refine rget hC hK hR (ct_steps G _ _) rfl uin_X6 3 (by decide) TF_X6_21 rfl dX6_add_42 ?_
      have rd_8 : (s_6 8 3).toInt = (σ 8 3).toInt := congrArg Int32.toInt (Eq.trans (show s_6 8 3 = s_3 8 3 from (by rw [es_7]; exact up2_o (by omega))) (show s_3 8 3 = σ 8 3 from (by rw [es_4]; exact up2_o (by omega))))
      refine lv_iload_n hC.x hC.b dX6_add_45 rfl (lv_at hl 3 rfl) ?_
      refine ast hC hK hG hR hS (fun _ => ct_misses G _ _) rfl (by omega) (by omega) rfl dX6_add_46 (fun s_9 es_10 H locs hR hS => ?_)
      refine lv_aload_n hC.x hC.b dX6_add_47 rfl (lv_at hl 0 rfl) ?_
      refine lv_dup hC.x hC.b dX6_add_48 rfl ?_
      refine rget hC hK hR (ct_steps G _ _) rfl uin_X6 3 (by decide) TF_X6_21 rfl dX6_add_49 ?_
      have rd_11 : (s_9 8 3).toInt = (σ 8 3).toInt := congrArg Int32.toInt (Eq.trans (show s_9 8 3 = s_6 8 3 from (by rw [es_10]; exact up2_o (by omega))) (Eq.trans (show s_6 8 3 = s_3 8 3 from (by rw [es_7]; exact up2_o (by omega))) (show s_3 8 3 = σ 8 3 from (by rw [es_4]; exact up2_o (by omega)))))
      refine lv_iconst (v := 1) hC.x hC.b dX6_add_52 (by decide) ?_
      refine lv_iadd hC.x hC.b dX6_add_53 ?_
      refine rputi hC hK hG hR hS (ct_steps G _ _) rfl uin_X6 tyX6 tyX6_ok nmX6 3 (by decide) TF_X6_21 rfl (Or.inl rfl) (Nat.le_of_ble_eq_true rfl) rfl (ct_steps G _ _) dX6_add_54 (fun s_13 es_12 H locs hR hS => ?_)
      exact retv hC hK hR hS (⟨by exact (by rw [es_12]; exact CG.up ((by rw [es_10]; exact CG.up ((by rw [es_7]; exact CG.up ((by rw [es_4]; exact CG.up (CG.rf) (by omega))) (by omega))) (by omega))) (by omega)), by subst es_12; subst es_10; subst es_7; subst es_4; ((try dsimp only); first | exact (((Fr.rf.up (by omega)).up (by omega)).up (by omega)).up (by omega) | exact Fr.rf), by (try dsimp only); first | exact ad6_n (by omega) | exact ad6_y (by assumption) (by assumption) (by assumption) (by assumption) (by omega)⟩) dX6_add_57
    · skip
      exact retv hC hK hR hS (⟨by exact CG.rf, by (try dsimp only); first | exact (((Fr.rf.up (by omega)).up (by omega)).up (by omega)).up (by omega) | exact Fr.rf, by (try dsimp only); first | exact ad6_n (by omega) | exact ad6_y (by assumption) (by assumption) (by assumption) (by assumption) (by omega)⟩) dX6_add_16

abbrev po6_X7_tell (σ : SI) (τ : SL) (wa : Int32) (wq : Nat) (hr : Int32) (pl : Int32) (q : Nat) (xa : Int32) : SI × SL → Prop := fun u => ((CG σ u.1) ∧ (u.1 = up2 σ (24 + wq) (24 * hr.toInt.toNat + q) xa))
set_option maxRecDepth 100000 in
set_option maxHeartbeats 4000000 in
theorem c6_X7_tell (l : Launch) {G : Gx} {A : Nat → Prop} (hG : GOk G A) (σ : SI) (τ : SL) (wa : Int32) (wq : Nat) (hp_wq : wa.toInt.toNat = wq) (hr : Int32) (pl : Int32) (q : Nat) (hp_q : pl.toInt.toNat = q) (xa : Int32) (ht7 : (0 ≤ wa.toInt ∧ wa.toInt < 5) ∧ (0 ≤ hr.toInt ∧ hr.toInt < 200) ∧ 0 ≤ pl.toInt ∧ pl.toInt < 24) : MV l G A 0 yX7_tell cX7_tell 5 none [.ref (G.2.1 5), .int wa, .int hr, .int pl, .int xa] (σ, τ) (po6_X7_tell σ τ wa wq hr pl q xa) := by
  refine met_of (own := RX7) (by decide +kernel) rfl [(0, .ref (G.2.1 5)), (1, .int wa), (2, .int hr), (3, .int pl), (4, .int xa)] rfl (Nat.le_of_ble_eq_true rfl) ?_
  intro p e s m args below meth c ls hC hK hR hl
  have hS : va_S A s.heap s.heap [] := va_S.rf
  refine lv_iload_n hC.x hC.b dX7_tell_0 rfl (lv_at hl 1 rfl) ?_
  refine bz_lt (tgt := 45) (a := wa.toInt) (b := 0) hC.x hC.b rfl rfl dX7_tell_1 (by decide) (fun c_1 => ?_) (fun c_1 => ?_)
  · skip
    exact retv hC hK hR hS (⟨by exact CG.rf, by (try dsimp only); (subst_vars); first | (congr 1 <;> omega) | (congr 2 <;> omega) | (exfalso; omega)⟩) dX7_tell_45
  · skip
    refine lv_iload_n hC.x hC.b dX7_tell_4 rfl (lv_at hl 1 rfl) ?_
    refine lv_iconst (v := 5) hC.x hC.b dX7_tell_5 (by decide) ?_
    refine bi_ge (tgt := 45) (a := wa.toInt) (b := 5) hC.x hC.b rfl rfl dX7_tell_6 (by decide) (fun c_2 => ?_) (fun c_2 => ?_)
    · skip
      exact retv hC hK hR hS (⟨by exact CG.rf, by (try dsimp only); (subst_vars); first | (congr 1 <;> omega) | (congr 2 <;> omega) | (exfalso; omega)⟩) dX7_tell_45
    · skip
      refine lv_iload_n hC.x hC.b dX7_tell_9 rfl (lv_at hl 2 rfl) ?_
      refine bz_lt (tgt := 45) (a := hr.toInt) (b := 0) hC.x hC.b rfl rfl dX7_tell_10 (by decide) (fun c_3 => ?_) (fun c_3 => ?_)
      · skip
        exact retv hC hK hR hS (⟨by exact CG.rf, by (try dsimp only); (subst_vars); first | (congr 1 <;> omega) | (congr 2 <;> omega) | (exfalso; omega)⟩) dX7_tell_45
      · skip
        refine lv_iload_n hC.x hC.b dX7_tell_13 rfl (lv_at hl 2 rfl) ?_
        refine lv_sipush (v := 200) hC.x hC.b dX7_tell_14 (by decide) ?_
        refine bi_ge (tgt := 45) (a := hr.toInt) (b := 200) hC.x hC.b rfl rfl dX7_tell_17 (by decide) (fun c_4 => ?_) (fun c_4 => ?_)
        · skip
          exact retv hC hK hR hS (⟨by exact CG.rf, by (try dsimp only); (subst_vars); first | (congr 1 <;> omega) | (congr 2 <;> omega) | (exfalso; omega)⟩) dX7_tell_45
        · skip
          refine lv_iload_n hC.x hC.b dX7_tell_20 rfl (lv_at hl 3 rfl) ?_
          refine bz_lt (tgt := 45) (a := pl.toInt) (b := 0) hC.x hC.b rfl rfl dX7_tell_21 (by decide) (fun c_5 => ?_) (fun c_5 => ?_)
          · skip
            exact retv hC hK hR hS (⟨by exact CG.rf, by (try dsimp only); (subst_vars); first | (congr 1 <;> omega) | (congr 2 <;> omega) | (exfalso; omega)⟩) dX7_tell_45
          · skip
            refine lv_iload_n hC.x hC.b dX7_tell_24 rfl (lv_at hl 3 rfl) ?_
            refine lv_bipush (v := 24) hC.x hC.b dX7_tell_25 (by decide) ?_
            refine bi_ge (tgt := 45) (a := pl.toInt) (b := 24) hC.x hC.b rfl rfl dX7_tell_27 (by decide) (fun c_6 => ?_) (fun c_6 => ?_)
            · skip
              exact retv hC hK hR hS (⟨by exact CG.rf, by (try dsimp only); (subst_vars); first | (congr 1 <;> omega) | (congr 2 <;> omega) | (exfalso; omega)⟩) dX7_tell_45
            · skip
              refine lv_aload_n hC.x hC.b dX7_tell_30 rfl (lv_at hl 0 rfl) ?_
              refine rget hC hK hR (ct_told G _ _) rfl uin_X7 0 (by decide) TF_X7_11 rfl dX7_tell_31 ?_
              refine lv_iload_n hC.x hC.b dX7_tell_34 rfl (lv_at hl 1 rfl) ?_
              have hq_7 : wq < 5 := by omega
              refine aald (t0 := 4) hC hK hR (by decide) rfl (ct_clockRows G _ _) rfl (by omega) (by omega) hp_wq dX7_tell_35 ?_
              refine lv_iload_n hC.x hC.b dX7_tell_36 rfl (lv_at hl 2 rfl) ?_
              refine lv_bipush (v := 24) hC.x hC.b dX7_tell_37 (by decide) ?_
              refine lv_imul hC.x hC.b dX7_tell_39 ?_
              have pr_8 : (hr * (24 : Int32)).toInt = (hr.toInt * 24) := mulI rfl rfl (by omega) (by omega)
              refine lv_iload_n hC.x hC.b dX7_tell_40 rfl (lv_at hl 3 rfl) ?_
              refine lv_iadd hC.x hC.b dX7_tell_41 ?_
              have pr_9 : ((hr * (24 : Int32)) + pl).toInt = ((hr.toInt * 24) + pl.toInt) := addI pr_8 rfl (by omega) (by omega)
              refine lv_iload hC.x hC.b dX7_tell_42 (lv_at hl 4 rfl) ?_
              refine ast hC hK hG hR hS (fun _ => ct_cr hq_7 G _ _) pr_9 (by omega) (by omega) rfl dX7_tell_44 (fun s_10 es_11 H locs hR hS => ?_)
              exact retv hC hK hR hS (⟨by exact (by rw [es_11]; exact CG.up (CG.rf) (by omega)), by (try dsimp only); (subst_vars); first | (congr 1 <;> omega) | (congr 2 <;> omega) | (exfalso; omega)⟩) dX7_tell_45

abbrev po6_X7_tellPaper (σ : SI) (τ : SL) (wa : Int32) (wq : Nat) (hr : Int32) (xa : Int32) : SI × SL → Prop := fun u => ((CG σ u.1) ∧ (u.1 = up2 σ (29 + wq) hr.toInt.toNat xa))
set_option maxRecDepth 100000 in
set_option maxHeartbeats 4000000 in
theorem c6_X7_tellPaper (l : Launch) {G : Gx} {A : Nat → Prop} (hG : GOk G A) (σ : SI) (τ : SL) (wa : Int32) (wq : Nat) (hp_wq : wa.toInt.toNat = wq) (hr : Int32) (xa : Int32) (ht7 : (0 ≤ wa.toInt ∧ wa.toInt < 6) ∧ (0 ≤ hr.toInt ∧ hr.toInt < 200)) : MV l G A 0 yX7_tellPaper cX7_tellPaper 4 none [.ref (G.2.1 5), .int wa, .int hr, .int xa] (σ, τ) (po6_X7_tellPaper σ τ wa wq hr xa) := by
  refine met_of (own := RX7) (by decide +kernel) rfl [(0, .ref (G.2.1 5)), (1, .int wa), (2, .int hr), (3, .int xa)] rfl (Nat.le_of_ble_eq_true rfl) ?_
  intro p e s m args below meth c ls hC hK hR hl
  have hS : va_S A s.heap s.heap [] := va_S.rf
  refine lv_iload_n hC.x hC.b dX7_tellPaper_0 rfl (lv_at hl 1 rfl) ?_
  refine bz_lt (tgt := 30) (a := wa.toInt) (b := 0) hC.x hC.b rfl rfl dX7_tellPaper_1 (by decide) (fun c_1 => ?_) (fun c_1 => ?_)
  · skip
    exact retv hC hK hR hS (⟨by exact CG.rf, by (try dsimp only); (subst_vars); first | rfl | (congr 1 <;> omega) | (congr 2 <;> omega) | (exfalso; omega)⟩) dX7_tellPaper_30
  · skip
    refine lv_iload_n hC.x hC.b dX7_tellPaper_4 rfl (lv_at hl 1 rfl) ?_
    refine lv_bipush (v := 6) hC.x hC.b dX7_tellPaper_5 (by decide) ?_
    refine bi_ge (tgt := 30) (a := wa.toInt) (b := 6) hC.x hC.b rfl rfl dX7_tellPaper_7 (by decide) (fun c_2 => ?_) (fun c_2 => ?_)
    · skip
      exact retv hC hK hR hS (⟨by exact CG.rf, by (try dsimp only); (subst_vars); first | rfl | (congr 1 <;> omega) | (congr 2 <;> omega) | (exfalso; omega)⟩) dX7_tellPaper_30
    · skip
      refine lv_iload_n hC.x hC.b dX7_tellPaper_10 rfl (lv_at hl 2 rfl) ?_
      refine bz_lt (tgt := 30) (a := hr.toInt) (b := 0) hC.x hC.b rfl rfl dX7_tellPaper_11 (by decide) (fun c_3 => ?_) (fun c_3 => ?_)
      · skip
        exact retv hC hK hR hS (⟨by exact CG.rf, by (try dsimp only); (subst_vars); first | rfl | (congr 1 <;> omega) | (congr 2 <;> omega) | (exfalso; omega)⟩) dX7_tellPaper_30
      · skip
        refine lv_iload_n hC.x hC.b dX7_tellPaper_14 rfl (lv_at hl 2 rfl) ?_
        refine lv_sipush (v := 200) hC.x hC.b dX7_tellPaper_15 (by decide) ?_
        refine bi_ge (tgt := 30) (a := hr.toInt) (b := 200) hC.x hC.b rfl rfl dX7_tellPaper_18 (by decide) (fun c_4 => ?_) (fun c_4 => ?_)
        · skip
          exact retv hC hK hR hS (⟨by exact CG.rf, by (try dsimp only); (subst_vars); first | rfl | (congr 1 <;> omega) | (congr 2 <;> omega) | (exfalso; omega)⟩) dX7_tellPaper_30
        · skip
          refine lv_aload_n hC.x hC.b dX7_tellPaper_21 rfl (lv_at hl 0 rfl) ?_
          refine rget hC hK hR (ct_told G _ _) rfl uin_X7 1 (by decide) TF_X7_16 rfl dX7_tellPaper_22 ?_
          refine lv_iload_n hC.x hC.b dX7_tellPaper_25 rfl (lv_at hl 1 rfl) ?_
          have hq_5 : wq < 6 := by omega
          refine aald (t0 := 4) hC hK hR (by decide) rfl (ct_paperRows G _ _) rfl (by omega) (by omega) hp_wq dX7_tellPaper_26 ?_
          refine lv_iload_n hC.x hC.b dX7_tellPaper_27 rfl (lv_at hl 2 rfl) ?_
          refine lv_iload_n hC.x hC.b dX7_tellPaper_28 rfl (lv_at hl 3 rfl) ?_
          refine ast hC hK hG hR hS (fun _ => ct_pr hq_5 G _ _) rfl (by omega) (by omega) rfl dX7_tellPaper_29 (fun s_6 es_7 H locs hR hS => ?_)
          exact retv hC hK hR hS (⟨by exact (by rw [es_7]; exact CG.up (CG.rf) (by omega)), by (try dsimp only); (subst_vars); first | rfl | (congr 1 <;> omega) | (congr 2 <;> omega) | (exfalso; omega)⟩) dX7_tellPaper_30

abbrev po6_X1_hold (σ : SI) (τ : SL) (rq : Nat) (hr : Int32) : SI × SL → Prop := fun u => ((CF σ u.1) ∧ (HI σ u.1 rq hr 24) ∧ (HO6 σ u.1 rq hr 24))
set_option maxRecDepth 100000 in
set_option maxHeartbeats 4000000 in
theorem c6_X1_hold (l : Launch) {G : Gx} {A : Nat → Prop} (hG : GOk G A) (σ : SI) (τ : SL) (rq : Nat) (hrq : rq < 24) (hr : Int32) (hh2 : 0 ≤ hr.toInt ∧ hr.toInt < 200) (hk6 : HK6 σ hr) : MV l G A 4 yX1_hold cX1_hold 6 none [.ref (G.2.1 21), .ref (G.2.1 (80 + rq)), .int hr] (σ, τ) (po6_X1_hold σ τ rq hr) := by
  refine met_of (own := RX1) (by decide +kernel) rfl [(0, .ref (G.2.1 21)), (1, .ref (G.2.1 (80 + rq))), (2, .int hr)] rfl (Nat.le_of_ble_eq_true rfl) ?_
  intro p e s m args below meth c ls hC hK hR hl
  have hS : va_S A s.heap s.heap [] := va_S.rf
  refine lv_aload_n hC.x hC.b dX1_hold_0 rfl (lv_at hl 0 rfl) ?_
  refine rget hC hK hR (ct_closing G _ _) rfl uin_X1 1 (by decide) TF_X1_23 rfl dX1_hold_1 ?_
  refine lv_aload_n hC.x hC.b dX1_hold_4 rfl (lv_at hl 1 rfl) ?_
  refine rget hC hK hR (ct_clock hrq G _ _) rfl uin_X0 0 (by decide) TF_X1_62 rfl dX1_hold_5 ?_
  refine lv_iload_n hC.x hC.b dX1_hold_8 rfl (lv_at hl 2 rfl) ?_
  have av_1 : (nI rq).toInt = ((rq : Nat) : Int) := (nI_T _ (by omega))
  refine gov (runV (As := [.int (nI rq), .int hr]) (rest := []) hC hK hR hl.1 (c3_X8_spread l hG σ τ (nI rq) hr ) (call_b hC.ts TC_X8_spread TN_X8 TM_X1_83 hd_X8_spread ⟨Nat.le_of_ble_eq_true rfl, Nat.le_of_ble_eq_true rfl⟩) TI_X8_spread TS_X8_spread (ct_ways G _ _) rfl rfl rfl (Nat.le_of_ble_eq_true rfl) dX1_hold_9 ⟨Nat.le_of_ble_eq_true rfl, Nat.le_of_ble_eq_true rfl⟩) hS (fun s_4 t_5 H locs w_3 hR hS => ?_)
  try dsimp only [po3_X8_spread] at w_3
  obtain ⟨f_6, f_7⟩ := w_3
  refine lv_iconst (v := 0) hC.x hC.b dX1_hold_12 (by decide) ?_
  refine lv_istore_n (lv' := [(3, .int (0 : Int32)), (0, .ref (G.2.1 21)), (1, .ref (G.2.1 (80 + rq))), (2, .int hr)]) hC.x hC.b dX1_hold_13 rfl hl (by decide) rfl (fun ls hl => ?_)
  have L_14 : ∀ (F : Nat) (n : Nat) (s1 : SI) (t1 : SL), (24 - n) < F → (n ≤ 24) → (HI σ s1 rq hr n) → (HO6 σ s1 rq hr n) → (CF σ s1) → ∀ (H : Heap) (locs : List Loc) (ls : Array Slot), RepH G s1 t1 H → va_S A s.heap H locs → lv_has ls 6 [(0, .ref (G.2.1 21)), (1, .ref (G.2.1 (80 + rq))), (2, .int hr), (3, .int (nI n))] → W p l e (rmD 4) s m args below meth c H locs 0 0 (MQ below (va_Qv (po6_X1_hold σ τ rq hr) (BU G) A) args s 0 0 A) (F0 m 14 ls []) := by
    intro F
    induction F with
    | zero => intro n s1 t1 hm; exact absurd hm (Nat.not_lt_zero _)
    | succ F ih_14 =>
      intro n s1 t1 hm_14 hi0_14 hi1_14 hi2_14 hi3_14 H locs ls hR hS hl
      have hnI := nI_T n (by omega)
      refine lv_iload_n hC.x hC.b dX1_hold_14 rfl (lv_at hl 3 rfl) ?_
      refine lv_bipush (v := 24) hC.x hC.b dX1_hold_15 (by decide) ?_
      refine bi_ge (tgt := 153) (a := (n : Int)) (b := 24) hC.x hC.b (nI_T n (by omega)) rfl dX1_hold_17 (by decide) (fun c_8 => ?_) (fun c_8 => ?_)
      · skip
        exact retv hC hK hR hS (⟨by exact hi3_14, by (try dsimp only); (have e9 : n = 24 := by omega); exact e9 ▸ hi1_14, by (try dsimp only); (have e9 : n = 24 := by omega); exact e9 ▸ hi2_14⟩) dX1_hold_153
      · skip
        refine lv_aload_n hC.x hC.b dX1_hold_20 rfl (lv_at hl 0 rfl) ?_
        refine rget hC hK hR (ct_closing G _ _) rfl uin_X1 5 (by decide) TF_X1_9 rfl dX1_hold_21 ?_
        refine lv_iload_n hC.x hC.b dX1_hold_24 rfl (lv_at hl 3 rfl) ?_
        refine lv_iconst (v := 0) hC.x hC.b dX1_hold_25 (by decide) ?_
        refine ast hC hK hG hR hS (fun _ => ct_fullWeights G _ _) (nI_T n (by omega)) (by omega) (by omega) (Int.toNat_natCast _) dX1_hold_26 (fun s_9 es_10 H locs hR hS => ?_)
        refine lv_aload_n hC.x hC.b dX1_hold_27 rfl (lv_at hl 0 rfl) ?_
        refine rget hC hK hR (ct_closing G _ _) rfl uin_X1 0 (by decide) TF_X1_19 rfl dX1_hold_28 ?_
        refine lv_iload_n hC.x hC.b dX1_hold_31 rfl (lv_at hl 3 rfl) ?_
        have av_11 : (nI n).toInt = (n : Int) := (nI_T n (by omega))
        refine goqp (runV (As := [.int (nI n)]) (rest := []) hC hK hR hl.1 (c_X5_clockAt l hG s_9 t1 (nI n) n (by first | rfl | (rw [show (nI n).toInt = (n : Int) from (nI_T n (by omega))]; done) | (rw [show (nI n).toInt = (n : Int) from (nI_T n (by omega))]; exact (Int.toNat_natCast _))) ) (call_b hC.ts TC_X5_clockAt TN_X5 TM_X1_73 hd_X5_clockAt ⟨Nat.le_of_ble_eq_true rfl, Nat.le_of_ble_eq_true rfl⟩) TI_X5_clockAt TS_X5_clockAt (ct_shelf G _ _) rfl rfl rfl (Nat.le_of_ble_eq_true rfl) dX1_hold_32 ⟨Nat.le_of_ble_eq_true rfl, Nat.le_of_ble_eq_true rfl⟩) hS (fun v_12 H locs w_13 hR hS => ?_)
        rcases w_13 with ⟨rfl, f_14⟩ | ⟨rfl, f_15, f_16, f_17, f_18⟩
        · skip
          refine lv_astoreN (lv' := [(4, .null), (0, .ref (G.2.1 21)), (1, .ref (G.2.1 (80 + rq))), (2, .int hr), (3, .int (nI n))]) hC.x hC.b dX1_hold_35 hl (by decide) rfl (fun ls hl => ?_)
          refine lv_aloadN hC.x hC.b dX1_hold_37 (lv_at hl 0 rfl) ?_
          refine lv_ifnullN (tgt := 147) hC.x hC.b dX1_hold_39 (by decide) ?_
          refine lv_iinc (v := nI (n + 1)) (lv' := [(3, .int (nI (n + 1))), (4, .null), (0, .ref (G.2.1 21)), (1, .ref (G.2.1 (80 + rq))), (2, .int hr)]) hC.x hC.b dX1_hold_147 hl (k := 4) rfl (nI_succ _).symm (by decide) rfl (fun ls hl => ?_)
          refine lv_goto (tgt := 14) hC.x hC.b dX1_hold_150 (by decide) ?_
          exact ih_14 (n + 1) s_9 t1 (by omega) (by first | omega | assumption) (by exact HI.sk hi1_14 (by rw [es_10]; exact CF.up (hi3_14) (by omega)) (by omega) (fun k9 h9 h9b => (show s_9 k9 = s1 k9 from (by rw [es_10]; exact up2_ne (by omega)))) (show s_9 21 6 = s1 21 6 from (by rw [es_10]; exact up2_o (by omega))) (by first | exact Or.inl (by rintro ⟨h1, h2, h3, h4⟩; omega) | exact Or.inr (by omega) | exact Or.inr (by rw [show s_9 14 n = _ from rfl]; assumption))) (by exact HO6.sk hi2_14 es_10 (by first | exact Or.inl (fun t9 => (show ¬ TkC s_9 n from (by rintro ⟨h1, h2, h3, h4⟩; omega)) (tk_cf' (by rw [es_10]; exact CF.up (hi3_14) (by omega)) (by omega) t9)) | exact Or.inr (by rw [← (show s_9 14 = s1 14 from (show s_9 14 = s1 14 from (by rw [es_10]; exact up2_ne (by omega))))]; omega) | (exfalso; omega))) (by rw [es_10]; exact CF.up (hi3_14) (by omega)) _ _ _ hR hS (lv_sub hl [2, 3, 4, 0] rfl)
        · skip
          have hq_19 : n < 24 := by omega
          refine lv_astore (lv' := [(4, .ref (G.2.1 (80 + n))), (0, .ref (G.2.1 21)), (1, .ref (G.2.1 (80 + rq))), (2, .int hr), (3, .int (nI n))]) hC.x hC.b dX1_hold_35 hl (by decide) rfl (fun ls hl => ?_)
          refine lv_aload hC.x hC.b dX1_hold_37 (lv_at hl 0 rfl) ?_
          refine lv_ifnull hC.x hC.b dX1_hold_39 ?_
          refine lv_aload hC.x hC.b dX1_hold_42 (lv_at hl 0 rfl) ?_
          refine goip (runV (As := []) (rest := []) hC hK hR hl.1 (c_X0_isTaken l hG s_9 t1 n hq_19 ) (call_b hC.ts TC_X0_isTaken TN_X0 TM_X1_79 hd_X0_isTaken ⟨Nat.le_of_ble_eq_true rfl, Nat.le_of_ble_eq_true rfl⟩) TI_X0_isTaken TS_X0_isTaken (ct_clock hq_19 G _ _) rfl rfl rfl (Nat.le_of_ble_eq_true rfl) dX1_hold_44 ⟨Nat.le_of_ble_eq_true rfl, Nat.le_of_ble_eq_true rfl⟩) hS (fun v_20 H locs w_21 hR hS => ?_)
          rcases w_21 with ⟨rfl, f_22, f_23⟩ | ⟨rfl, f_24⟩
          · skip
            refine bz_eq (tgt := 147) (a := 1) (b := 0) hC.x hC.b rfl rfl dX1_hold_47 (by decide) (fun c_25 => absurd c_25 (by decide)) (fun _ => ?_)
            have htk : TkC σ n := tk_cf (s := s_9) (by rw [es_10]; exact CF.up (hi3_14) (by omega)) (by omega) ⟨by omega, by omega, by omega, by omega⟩
            refine lv_aload_n hC.x hC.b dX1_hold_50 rfl (lv_at hl 1 rfl) ?_
            refine rget hC hK hR (ct_closing G _ _) rfl uin_X1 1 (by decide) TF_X1_23 rfl dX1_hold_51 ?_
            refine lv_iload_n hC.x hC.b dX1_hold_54 rfl (lv_at hl 4 rfl) ?_
            have av_26 : (nI n).toInt = (n : Int) := (nI_T n (by omega))
            refine goip (runV (As := [.int (nI n)]) (rest := []) hC hK hR hl.1 (c_X8_lengthTo l hG s_9 t1 (nI n) n (by first | rfl | (rw [show (nI n).toInt = (n : Int) from (nI_T n (by omega))]; done) | (rw [show (nI n).toInt = (n : Int) from (nI_T n (by omega))]; exact (Int.toNat_natCast _))) ) (call_b hC.ts TC_X8_lengthTo TN_X8 TM_X1_88 hd_X8_lengthTo ⟨Nat.le_of_ble_eq_true rfl, Nat.le_of_ble_eq_true rfl⟩) TI_X8_lengthTo TS_X8_lengthTo (ct_ways G _ _) rfl rfl rfl (Nat.le_of_ble_eq_true rfl) dX1_hold_55 ⟨Nat.le_of_ble_eq_true rfl, Nat.le_of_ble_eq_true rfl⟩) hS (fun v_27 H locs w_28 hR hS => ?_)
            rcases w_28 with ⟨rfl, f_29, f_30⟩ | ⟨rfl, f_31⟩
            · skip
              refine lv_iconst (v := (-1)) hC.x hC.b dX1_hold_58 (by decide) ?_
              refine bi_ne (tgt := 65) (a := (s_9 14 n).toInt) (b := (-1)) hC.x hC.b rfl rfl dX1_hold_59 (by decide) (fun c_32 => ?_) (fun c_32 => ?_)
              · skip
                have h14 : (s_9 14 n).toInt ≠ -1 := by omega
                refine lv_aload_n hC.x hC.b dX1_hold_65 rfl (lv_at hl 1 rfl) ?_
                refine rget hC hK hR (ct_closing G _ _) rfl uin_X1 3 (by decide) TF_X1_31 rfl dX1_hold_66 ?_
                refine lv_aload hC.x hC.b dX1_hold_69 (lv_at hl 0 rfl) ?_
                refine lv_iload_n hC.x hC.b dX1_hold_71 rfl (lv_at hl 3 rfl) ?_
                refine goi (runV (As := [.ref (G.2.1 (80 + n)), .int hr]) (rest := []) hC hK hR hl.1 (c5_X2_foretoldOf l hG s_9 t1 n hq_19 hr (by first | omega | assumption) (by exact KQ6.ex (hk6 n (by omega) ⟨htk.1, htk.2.1⟩) ((show CF σ s_9 from (by rw [es_10]; exact CF.up (hi3_14) (by omega))).2 n 2 (by omega) (by omega)) ((show CF σ s_9 from (by rw [es_10]; exact CF.up (hi3_14) (by omega))).2 n 3 (by omega) (by omega)) ((show CF σ s_9 from (by rw [es_10]; exact CF.up (hi3_14) (by omega))).2 n 8 (by omega) (by omega)) (Eq.trans (show s_9 24 = s1 24 from (by rw [es_10]; exact up2_ne (by omega))) (hi2_14.1 24 (by omega) (by decide) (by decide))) (Eq.trans (show s_9 26 = s1 26 from (by rw [es_10]; exact up2_ne (by omega))) (hi2_14.1 26 (by omega) (by decide) (by decide))))) (call_b hC.ts TC_X2_foretoldOf TN_X2 TM_X1_92 hd_X2_foretoldOf ⟨Nat.le_of_ble_eq_true rfl, Nat.le_of_ble_eq_true rfl⟩) TI_X2_foretoldOf TS_X2_foretoldOf (ct_fore G _ _) rfl rfl rfl (Nat.le_of_ble_eq_true rfl) dX1_hold_72 ⟨Nat.le_of_ble_eq_true rfl, Nat.le_of_ble_eq_true rfl⟩) hS (fun v_33 s_35 t_36 H locs w_34 hR hS => ?_)
                try dsimp only [po5_X2_foretoldOf] at w_34
                obtain ⟨rfl, f_37⟩ := w_34
                refine lv_topi (fun x_38 ex_39 => ?_)
                refine lv_istore (lv' := [(5, .int x_38), (4, .ref (G.2.1 (80 + n))), (0, .ref (G.2.1 21)), (1, .ref (G.2.1 (80 + rq))), (2, .int hr), (3, .int (nI n))]) hC.x hC.b dX1_hold_75 hl (by decide) rfl (fun ls hl => ?_)
                refine lv_aload_n hC.x hC.b dX1_hold_77 rfl (lv_at hl 2 rfl) ?_
                refine rget hC hK hR (ct_closing G _ _) rfl uin_X1 2 (by decide) TF_X1_27 rfl dX1_hold_78 ?_
                refine lv_iconst (v := 1) hC.x hC.b dX1_hold_81 (by decide) ?_
                refine lv_iload_n hC.x hC.b dX1_hold_82 rfl (lv_at hl 4 rfl) ?_
                refine lv_iload_n hC.x hC.b dX1_hold_83 rfl (lv_at hl 5 rfl) ?_
                refine lv_iload hC.x hC.b dX1_hold_84 (lv_at hl 0 rfl) ?_
                have av_40 : (1 : Int32).toInt = 1 := by decide
                have av_41 : (nI n).toInt = (n : Int) := (nI_T n (by omega))
                refine gov (runV (As := [.int (1 : Int32), .int hr, .int (nI n), .int x_38]) (rest := []) hC hK hR hl.1 (c6_X7_tell l hG s_35 t_36 (1 : Int32) 1 (by first | rfl | (rw [show (1 : Int32).toInt = 1 from rfl]; done) | (rw [show (1 : Int32).toInt = 1 from rfl]; exact rfl)) hr (nI n) n (by first | rfl | (rw [show (nI n).toInt = (n : Int) from (nI_T n (by omega))]; done) | (rw [show (nI n).toInt = (n : Int) from (nI_T n (by omega))]; exact (Int.toNat_natCast _))) x_38 (by omega)) (call_b hC.ts TC_X7_tell TN_X7 TM_X1_98 hd_X7_tell ⟨Nat.le_of_ble_eq_true rfl, Nat.le_of_ble_eq_true rfl⟩) TI_X7_tell TS_X7_tell (ct_told G _ _) rfl rfl rfl (Nat.le_of_ble_eq_true rfl) dX1_hold_86 ⟨Nat.le_of_ble_eq_true rfl, Nat.le_of_ble_eq_true rfl⟩) hS (fun s_44 t_45 H locs w_43 hR hS => ?_)
                try dsimp only [po6_X7_tell] at w_43
                obtain ⟨f_46, f_47⟩ := w_43
                refine lv_aload_n hC.x hC.b dX1_hold_89 rfl (lv_at hl 2 rfl) ?_
                refine rget hC hK hR (ct_closing G _ _) rfl uin_X1 2 (by decide) TF_X1_27 rfl dX1_hold_90 ?_
                refine lv_iconst (v := 4) hC.x hC.b dX1_hold_93 (by decide) ?_
                refine lv_iload_n hC.x hC.b dX1_hold_94 rfl (lv_at hl 4 rfl) ?_
                refine lv_iload_n hC.x hC.b dX1_hold_95 rfl (lv_at hl 5 rfl) ?_
                refine lv_aload_n hC.x hC.b dX1_hold_96 rfl (lv_at hl 2 rfl) ?_
                refine rget hC hK hR (ct_closing G _ _) rfl uin_X1 1 (by decide) TF_X1_23 rfl dX1_hold_97 ?_
                refine lv_iload_n hC.x hC.b dX1_hold_100 rfl (lv_at hl 5 rfl) ?_
                have av_48 : (nI n).toInt = (n : Int) := (nI_T n (by omega))
                refine goip (runV (As := [.int (nI n)]) (rest := [.int (nI n), .int hr, .int (4 : Int32), .ref (G.2.1 5)]) hC hK hR hl.1 (c3_X8_sumTo l hG s_44 t_45 (nI n) n (by first | rfl | (rw [show (nI n).toInt = (n : Int) from (nI_T n (by omega))]; done) | (rw [show (nI n).toInt = (n : Int) from (nI_T n (by omega))]; exact (Int.toNat_natCast _))) ) (call_b hC.ts TC_X8_sumTo TN_X8 TM_X1_102 hd_X8_sumTo ⟨Nat.le_of_ble_eq_true rfl, Nat.le_of_ble_eq_true rfl⟩) TI_X8_sumTo TS_X8_sumTo (ct_ways G _ _) rfl rfl rfl (Nat.le_of_ble_eq_true rfl) dX1_hold_101 ⟨Nat.le_of_ble_eq_true rfl, Nat.le_of_ble_eq_true rfl⟩) hS (fun v_49 H locs w_50 hR hS => ?_)
                rcases w_50 with ⟨rfl, f_51, f_52⟩ | ⟨rfl, f_53⟩
                · skip
                  refine lv_ineg hC.x hC.b dX1_hold_104 ?_
                  refine lv_aload hC.x hC.b dX1_hold_105 (lv_at hl 1 rfl) ?_
                  refine rget hC hK hR (ct_clock hq_19 G _ _) rfl uin_X0 4 (by decide) TF_X1_105 rfl dX1_hold_107 ?_
                  rw [show s_44 (80 + n) 4 = (σ (80 + n) 4) from (Eq.trans (show s_44 (80 + n) 4 = s_35 (80 + n) 4 from f_46.2 n 4 hq_19 (by omega)) (Eq.trans (show s_35 (80 + n) 4 = s_9 (80 + n) 4 from congrFun (f_37 (80 + n) (by first | omega | (dsimp only; omega))) 4) (Eq.trans (show s_9 (80 + n) 4 = s1 (80 + n) 4 from (by rw [es_10]; exact up2_o (by omega))) (show s1 (80 + n) 4 = σ (80 + n) 4 from hi3_14.2 n 4 hq_19 (by omega)))))]
                  refine lv_isub hC.x hC.b dX1_hold_110 ?_
                  refine lv_aload_n hC.x hC.b dX1_hold_111 rfl (lv_at hl 3 rfl) ?_
                  refine rget hC hK hR (ct_clock hrq G _ _) rfl uin_X0 4 (by decide) TF_X1_105 rfl dX1_hold_112 ?_
                  rw [show s_44 (80 + rq) 4 = (σ (80 + rq) 4) from (Eq.trans (show s_44 (80 + rq) 4 = s_35 (80 + rq) 4 from f_46.2 rq 4 hrq (by omega)) (Eq.trans (show s_35 (80 + rq) 4 = s_9 (80 + rq) 4 from congrFun (f_37 (80 + rq) (by first | omega | (dsimp only; omega))) 4) (Eq.trans (show s_9 (80 + rq) 4 = s1 (80 + rq) 4 from (by rw [es_10]; exact up2_o (by omega))) (show s1 (80 + rq) 4 = σ (80 + rq) 4 from hi3_14.2 rq 4 hrq (by omega)))))]
                  refine lv_iadd hC.x hC.b dX1_hold_115 ?_
                  have av_54 : (4 : Int32).toInt = 4 := by decide
                  have av_55 : (nI n).toInt = (n : Int) := (nI_T n (by omega))
                  refine gov (runV (As := [.int (4 : Int32), .int hr, .int (nI n), .int (((-(s_44 15 n)) - (σ (80 + n) 4)) + (σ (80 + rq) 4))]) (rest := []) hC hK hR hl.1 (c6_X7_tell l hG s_44 t_45 (4 : Int32) 4 (by first | rfl | (rw [show (4 : Int32).toInt = 4 from rfl]; done) | (rw [show (4 : Int32).toInt = 4 from rfl]; exact rfl)) hr (nI n) n (by first | rfl | (rw [show (nI n).toInt = (n : Int) from (nI_T n (by omega))]; done) | (rw [show (nI n).toInt = (n : Int) from (nI_T n (by omega))]; exact (Int.toNat_natCast _))) (((-(s_44 15 n)) - (σ (80 + n) 4)) + (σ (80 + rq) 4)) (by omega)) (call_b hC.ts TC_X7_tell TN_X7 TM_X1_98 hd_X7_tell ⟨Nat.le_of_ble_eq_true rfl, Nat.le_of_ble_eq_true rfl⟩) TI_X7_tell TS_X7_tell (ct_told G _ _) rfl rfl rfl (Nat.le_of_ble_eq_true rfl) dX1_hold_116 ⟨Nat.le_of_ble_eq_true rfl, Nat.le_of_ble_eq_true rfl⟩) hS (fun s_58 t_59 H locs w_57 hR hS => ?_)
                  try dsimp only [po6_X7_tell] at w_57
                  obtain ⟨f_60, f_61⟩ := w_57
                  refine lv_aload_n hC.x hC.b dX1_hold_119 rfl (lv_at hl 2 rfl) ?_
                  refine rget hC hK hR (ct_closing G _ _) rfl uin_X1 5 (by decide) TF_X1_9 rfl dX1_hold_120 ?_
                  refine lv_iload_n hC.x hC.b dX1_hold_123 rfl (lv_at hl 5 rfl) ?_
                  refine lv_aload_n hC.x hC.b dX1_hold_124 rfl (lv_at hl 2 rfl) ?_
                  refine rget hC hK hR (ct_closing G _ _) rfl uin_X1 3 (by decide) TF_X1_31 rfl dX1_hold_125 ?_
                  refine lv_aload hC.x hC.b dX1_hold_128 (lv_at hl 1 rfl) ?_
                  refine lv_iload_n hC.x hC.b dX1_hold_130 rfl (lv_at hl 4 rfl) ?_
                  refine lv_iload hC.x hC.b dX1_hold_131 (lv_at hl 0 rfl) ?_
                  refine goi (runV (As := [.ref (G.2.1 (80 + n)), .int hr, .int x_38]) (rest := [.int (nI n), .ref (G.2.1 22)]) hC hK hR hl.1 (c5_X2_fullWeightOf l hG s_58 t_59 n hq_19 hr x_38 (by first | omega | assumption) (by exact KQ6.m (by exact KQ6.ex (hk6 n (by omega) ⟨htk.1, htk.2.1⟩) ((show CF σ s_58 from (CF.tr (CF.tr (CF.tr (by rw [es_10]; exact CF.up (hi3_14) (by omega)) (CF.fore f_37)) (CG.cf f_46)) (CG.cf f_60))).2 n 2 (by omega) (by omega)) ((show CF σ s_58 from (CF.tr (CF.tr (CF.tr (by rw [es_10]; exact CF.up (hi3_14) (by omega)) (CF.fore f_37)) (CG.cf f_46)) (CG.cf f_60))).2 n 3 (by omega) (by omega)) ((show CF σ s_58 from (CF.tr (CF.tr (CF.tr (by rw [es_10]; exact CF.up (hi3_14) (by omega)) (CF.fore f_37)) (CG.cf f_46)) (CG.cf f_60))).2 n 8 (by omega) (by omega)) (Eq.trans (Eq.trans (show s_58 24 = s_44 24 from (by rw [f_61]; exact up2_ne (by omega))) (Eq.trans (show s_44 24 = s_35 24 from (by rw [f_47]; exact up2_ne (by omega))) (Eq.trans (show s_35 24 = s_9 24 from f_37 24 (by first | omega | (dsimp only; omega))) (show s_9 24 = s1 24 from (by rw [es_10]; exact up2_ne (by omega)))))) (hi2_14.1 24 (by omega) (by decide) (by decide))) (Eq.trans (Eq.trans (show s_58 26 = s_44 26 from (by rw [f_61]; exact up2_ne (by omega))) (Eq.trans (show s_44 26 = s_35 26 from (by rw [f_47]; exact up2_ne (by omega))) (Eq.trans (show s_35 26 = s_9 26 from f_37 26 (by first | omega | (dsimp only; omega))) (show s_9 26 = s1 26 from (by rw [es_10]; exact up2_ne (by omega)))))) (hi2_14.1 26 (by omega) (by decide) (by decide)))))) (call_b hC.ts TC_X2_fullWeightOf TN_X2 TM_X1_108 hd_X2_fullWeightOf ⟨Nat.le_of_ble_eq_true rfl, Nat.le_of_ble_eq_true rfl⟩) TI_X2_fullWeightOf TS_X2_fullWeightOf (ct_fore G _ _) rfl rfl rfl (Nat.le_of_ble_eq_true rfl) dX1_hold_133 ⟨Nat.le_of_ble_eq_true rfl, Nat.le_of_ble_eq_true rfl⟩) hS (fun v_62 s_64 t_65 H locs w_63 hR hS => ?_)
                  try dsimp only [po5_X2_fullWeightOf] at w_63
                  obtain ⟨rfl, f_66⟩ := w_63
                  refine ast hC hK hG hR hS (fun _ => ct_fullWeights G _ _) (nI_T n (by omega)) (by omega) (by omega) (Int.toNat_natCast _) dX1_hold_136 (fun s_67 es_68 H locs hR hS => ?_)
                  refine lv_aload_n hC.x hC.b dX1_hold_137 rfl (lv_at hl 2 rfl) ?_
                  refine lv_dup hC.x hC.b dX1_hold_138 rfl ?_
                  refine rget hC hK hR (ct_closing G _ _) rfl uin_X1 6 (by decide) TF_X1_15 rfl dX1_hold_139 ?_
                  rw [show s_67 21 6 = (s1 21 6) from (Eq.trans (show s_67 21 6 = s_64 21 6 from (by rw [es_68]; exact up2_o (by omega))) (Eq.trans (show s_64 21 6 = s_58 21 6 from congrFun (f_66 21 (by first | omega | (dsimp only; omega))) 6) (Eq.trans (show s_58 21 6 = s_44 21 6 from congrFun (f_60.1 21 (by first | omega | (dsimp only; omega))) 6) (Eq.trans (show s_44 21 6 = s_35 21 6 from congrFun (f_46.1 21 (by first | omega | (dsimp only; omega))) 6) (Eq.trans (show s_35 21 6 = s_9 21 6 from congrFun (f_37 21 (by first | omega | (dsimp only; omega))) 6) (show s_9 21 6 = s1 21 6 from (by rw [es_10]; exact up2_o (by omega))))))))]
                  refine lv_iconst (v := 1) hC.x hC.b dX1_hold_142 (by decide) ?_
                  refine lv_iadd hC.x hC.b dX1_hold_143 ?_
                  refine rputi hC hK hG hR hS (ct_closing G _ _) rfl uin_X1 tyX1 tyX1_ok nmX1 6 (by decide) TF_X1_15 rfl (Or.inl rfl) (Nat.le_of_ble_eq_true rfl) rfl (ct_closing G _ _) dX1_hold_144 (fun s_70 es_69 H locs hR hS => ?_)
                  refine lv_iinc (v := nI (n + 1)) (lv' := [(3, .int (nI (n + 1))), (5, .int x_38), (4, .ref (G.2.1 (80 + n))), (0, .ref (G.2.1 21)), (1, .ref (G.2.1 (80 + rq))), (2, .int hr)]) hC.x hC.b dX1_hold_147 hl (k := 5) rfl (nI_succ _).symm (by decide) rfl (fun ls hl => ?_)
                  refine lv_goto (tgt := 14) hC.x hC.b dX1_hold_150 (by decide) ?_
                  exact ih_14 (n + 1) s_70 t_65 (by omega) (by first | omega | assumption) (by exact HI.ad hi1_14 (fun k9 h9 h9b => (Eq.trans (show s_70 k9 = s_67 k9 from (by rw [es_69]; exact up2_ne (by omega))) (Eq.trans (show s_67 k9 = s_64 k9 from (by rw [es_68]; exact up2_ne (by omega))) (Eq.trans (show s_64 k9 = s_58 k9 from f_66 k9 (by first | omega | (dsimp only; omega))) (Eq.trans (show s_58 k9 = s_44 k9 from f_60.1 k9 (by first | omega | (dsimp only; omega))) (Eq.trans (show s_44 k9 = s_35 k9 from f_46.1 k9 (by first | omega | (dsimp only; omega))) (Eq.trans (show s_35 k9 = s_9 k9 from f_37 k9 (by first | omega | (dsimp only; omega))) (show s_9 k9 = s1 k9 from (by rw [es_10]; exact up2_ne (by omega)))))))))) (by rw [es_69]; exact up2_s) htk (by rw [← (show s_9 14 = s1 14 from (show s_9 14 = s1 14 from (by rw [es_10]; exact up2_ne (by omega))))]; assumption)) (by exact HO6.ad hi2_14 (by omega) (by omega) es_10 f_37 ex_39 f_47 f_61 f_66 es_68 es_69 htk (by rw [← (show s_9 14 = s1 14 from (by rw [es_10]; exact up2_ne (by omega)))]; exact h14)) (by rw [es_69]; exact CF.up ((by rw [es_68]; exact CF.up ((CF.tr (CF.tr (CF.tr (CF.tr (by rw [es_10]; exact CF.up (hi3_14) (by omega)) (CF.fore f_37)) (CG.cf f_46)) (CG.cf f_60)) (CF.fore f_66))) (by omega))) (by omega)) _ _ _ hR hS (lv_sub hl [3, 4, 5, 0] rfl)
                · skip
                  exfalso; omega
              · skip
                refine lv_goto (tgt := 147) hC.x hC.b dX1_hold_62 (by decide) ?_
                refine lv_iinc (v := nI (n + 1)) (lv' := [(3, .int (nI (n + 1))), (4, .ref (G.2.1 (80 + n))), (0, .ref (G.2.1 21)), (1, .ref (G.2.1 (80 + rq))), (2, .int hr)]) hC.x hC.b dX1_hold_147 hl (k := 4) rfl (nI_succ _).symm (by decide) rfl (fun ls hl => ?_)
                refine lv_goto (tgt := 14) hC.x hC.b dX1_hold_150 (by decide) ?_
                exact ih_14 (n + 1) s_9 t1 (by omega) (by first | omega | assumption) (by exact HI.sk hi1_14 (by rw [es_10]; exact CF.up (hi3_14) (by omega)) (by omega) (fun k9 h9 h9b => (show s_9 k9 = s1 k9 from (by rw [es_10]; exact up2_ne (by omega)))) (show s_9 21 6 = s1 21 6 from (by rw [es_10]; exact up2_o (by omega))) (by first | exact Or.inl (by rintro ⟨h1, h2, h3, h4⟩; omega) | exact Or.inr (by omega) | exact Or.inr (by rw [show s_9 14 n = _ from rfl]; assumption))) (by exact HO6.sk hi2_14 es_10 (by first | exact Or.inl (fun t9 => (show ¬ TkC s_9 n from (by rintro ⟨h1, h2, h3, h4⟩; omega)) (tk_cf' (by rw [es_10]; exact CF.up (hi3_14) (by omega)) (by omega) t9)) | exact Or.inr (by rw [← (show s_9 14 = s1 14 from (show s_9 14 = s1 14 from (by rw [es_10]; exact up2_ne (by omega))))]; omega) | (exfalso; omega))) (by rw [es_10]; exact CF.up (hi3_14) (by omega)) _ _ _ hR hS (lv_sub hl [2, 3, 4, 0] rfl)
            · skip
              refine lv_iconst (v := (-1)) hC.x hC.b dX1_hold_58 (by decide) ?_
              refine bi_ne (tgt := 65) (a := (-1)) (b := (-1)) hC.x hC.b rfl rfl dX1_hold_59 (by decide) (fun c_71 => absurd c_71 (by decide)) (fun _ => ?_)
              refine lv_goto (tgt := 147) hC.x hC.b dX1_hold_62 (by decide) ?_
              refine lv_iinc (v := nI (n + 1)) (lv' := [(3, .int (nI (n + 1))), (4, .ref (G.2.1 (80 + n))), (0, .ref (G.2.1 21)), (1, .ref (G.2.1 (80 + rq))), (2, .int hr)]) hC.x hC.b dX1_hold_147 hl (k := 4) rfl (nI_succ _).symm (by decide) rfl (fun ls hl => ?_)
              refine lv_goto (tgt := 14) hC.x hC.b dX1_hold_150 (by decide) ?_
              exact ih_14 (n + 1) s_9 t1 (by omega) (by first | omega | assumption) (by exact HI.sk hi1_14 (by rw [es_10]; exact CF.up (hi3_14) (by omega)) (by omega) (fun k9 h9 h9b => (show s_9 k9 = s1 k9 from (by rw [es_10]; exact up2_ne (by omega)))) (show s_9 21 6 = s1 21 6 from (by rw [es_10]; exact up2_o (by omega))) (by first | exact Or.inl (by rintro ⟨h1, h2, h3, h4⟩; omega) | exact Or.inr (by omega) | exact Or.inr (by rw [show s_9 14 n = _ from rfl]; assumption))) (by exact HO6.sk hi2_14 es_10 (by first | exact Or.inl (fun t9 => (show ¬ TkC s_9 n from (by rintro ⟨h1, h2, h3, h4⟩; omega)) (tk_cf' (by rw [es_10]; exact CF.up (hi3_14) (by omega)) (by omega) t9)) | exact Or.inr (by rw [← (show s_9 14 = s1 14 from (show s_9 14 = s1 14 from (by rw [es_10]; exact up2_ne (by omega))))]; omega) | (exfalso; omega))) (by rw [es_10]; exact CF.up (hi3_14) (by omega)) _ _ _ hR hS (lv_sub hl [2, 3, 4, 0] rfl)
          · skip
            refine bz_eq (tgt := 147) (a := 0) (b := 0) hC.x hC.b rfl rfl dX1_hold_47 (by decide) (fun _ => ?_) (fun c_72 => absurd c_72 (by decide))
            refine lv_iinc (v := nI (n + 1)) (lv' := [(3, .int (nI (n + 1))), (4, .ref (G.2.1 (80 + n))), (0, .ref (G.2.1 21)), (1, .ref (G.2.1 (80 + rq))), (2, .int hr)]) hC.x hC.b dX1_hold_147 hl (k := 4) rfl (nI_succ _).symm (by decide) rfl (fun ls hl => ?_)
            refine lv_goto (tgt := 14) hC.x hC.b dX1_hold_150 (by decide) ?_
            exact ih_14 (n + 1) s_9 t1 (by omega) (by first | omega | assumption) (by exact HI.sk hi1_14 (by rw [es_10]; exact CF.up (hi3_14) (by omega)) (by omega) (fun k9 h9 h9b => (show s_9 k9 = s1 k9 from (by rw [es_10]; exact up2_ne (by omega)))) (show s_9 21 6 = s1 21 6 from (by rw [es_10]; exact up2_o (by omega))) (by first | exact Or.inl (by rintro ⟨h1, h2, h3, h4⟩; omega) | exact Or.inr (by omega) | exact Or.inr (by rw [show s_9 14 n = _ from rfl]; assumption))) (by exact HO6.sk hi2_14 es_10 (by first | exact Or.inl (fun t9 => (show ¬ TkC s_9 n from (by rintro ⟨h1, h2, h3, h4⟩; omega)) (tk_cf' (by rw [es_10]; exact CF.up (hi3_14) (by omega)) (by omega) t9)) | exact Or.inr (by rw [← (show s_9 14 = s1 14 from (show s_9 14 = s1 14 from (by rw [es_10]; exact up2_ne (by omega))))]; omega) | (exfalso; omega))) (by rw [es_10]; exact CF.up (hi3_14) (by omega)) _ _ _ hR hS (lv_sub hl [2, 3, 4, 0] rfl)
  exact L_14 _ 0 s_4 t_5 (Nat.lt_succ_self _) (by first | omega | assumption) (by exact HI.st (by assumption) hrq (by assumption)) (by exact HO6.st (by assumption)) (CF.tr CF.rf (CF.ways f_6)) _ _ _ hR hS (lv_sub hl [1, 2, 3, 0] rfl)

abbrev po6_X1_weigh (σ : SI) (τ : SL) (hr : Int32) (pa : Int32) : SI × SL → Prop := fun u => ((CG σ u.1) ∧ (WG6 σ u.1 hr (mo6 pa (SW6 (σ 22) 24)) 24))
set_option maxRecDepth 100000 in
set_option maxHeartbeats 4000000 in
theorem c6_X1_weigh (l : Launch) {G : Gx} {A : Nat → Prop} (hG : GOk G A) (σ : SI) (τ : SL) (hr : Int32) (pa : Int32) (hh2 : 0 ≤ hr.toInt ∧ hr.toInt < 200) : MV l G A 1 yX1_weigh cX1_weigh 8 none [.ref (G.2.1 21), .int hr, .int pa] (σ, τ) (po6_X1_weigh σ τ hr pa) := by
  refine met_of (own := RX1) (by decide +kernel) rfl [(0, .ref (G.2.1 21)), (1, .int hr), (2, .int pa)] rfl (Nat.le_of_ble_eq_true rfl) ?_
  intro p e s m args below meth c ls hC hK hR hl
  have hS : va_S A s.heap s.heap [] := va_S.rf
  refine lv_lconst (v := 0) hC.x hC.b dX1_weigh_0 (by decide) ?_
  refine lv_lstore_n (lv' := [(3, .long (0 : Int64)), (0, .ref (G.2.1 21)), (1, .int hr), (2, .int pa)]) hC.x hC.b dX1_weigh_1 rfl hl (by decide) rfl (fun ls hl => ?_)
  refine lv_iconst (v := 0) hC.x hC.b dX1_weigh_2 (by decide) ?_
  refine lv_istore (lv' := [(5, .int (0 : Int32)), (3, .long (0 : Int64)), (0, .ref (G.2.1 21)), (1, .int hr), (2, .int pa)]) hC.x hC.b dX1_weigh_3 hl (by decide) rfl (fun ls hl => ?_)
  have L_5 : ∀ (F : Nat) (n : Nat) (x3 : Int64), (24 - n) < F → (n ≤ 24) → (x3 = SW6 (σ 22) n) → ∀ (H : Heap) (locs : List Loc) (ls : Array Slot), RepH G σ τ H → va_S A s.heap H locs → lv_has ls 8 [(0, .ref (G.2.1 21)), (1, .int hr), (2, .int pa), (3, .long x3), (5, .int (nI n))] → W p l e (rmD 1) s m args below meth c H locs 0 0 (MQ below (va_Qv (po6_X1_weigh σ τ hr pa) (BU G) A) args s 0 0 A) (F0 m 5 ls []) := by
    intro F
    induction F with
    | zero => intro n x3 hm; exact absurd hm (Nat.not_lt_zero _)
    | succ F ih_5 =>
      intro n x3 hm_5 hi0_5 hi1_5 H locs ls hR hS hl
      have hnI := nI_T n (by omega)
      refine lv_iload hC.x hC.b dX1_weigh_5 (lv_at hl 4 rfl) ?_
      refine lv_bipush (v := 24) hC.x hC.b dX1_weigh_7 (by decide) ?_
      refine bi_ge (tgt := 29) (a := (n : Int)) (b := 24) hC.x hC.b (nI_T n (by omega)) rfl dX1_weigh_9 (by decide) (fun c_1 => ?_) (fun c_1 => ?_)
      · skip
        refine lv_lconst (v := 1) hC.x hC.b dX1_weigh_29 (by decide) ?_
        refine lv_iload_n hC.x hC.b dX1_weigh_30 rfl (lv_at hl 2 rfl) ?_
        refine lv_i2l hC.x hC.b dX1_weigh_31 rfl ?_
        refine lv_lload_n hC.x hC.b dX1_weigh_32 rfl (lv_at hl 3 rfl) ?_
        refine lv_lmul hC.x hC.b dX1_weigh_33 ?_
        refine lv_ldc2 hC.x hC.b hC.ow (hC.ts _ TK_X1_112) dX1_weigh_34 ?_
        refine lv_ldiv hC.x hC.b dX1_weigh_37 (by decide) ?_
        have av_2 : (1 : Int64).toInt = 1 := by decide
        refine golp (runS (As := [.long (1 : Int64), .long ((pa.toInt64 * x3) / (100 : Int64))]) (rest := []) hC hK hR hl.1 (c_J9_max_f86c9 l hG σ τ (1 : Int64) ((pa.toInt64 * x3) / (100 : Int64)) ) (call_b hC.ts TC_J9_max_f86c9 TN_J9 TM_X1_114 hd_J9_max_f86c9 ⟨Nat.le_of_ble_eq_true rfl, Nat.le_of_ble_eq_true rfl⟩) TT_J9_max_f86c9 rfl rfl (Nat.le_of_ble_eq_true rfl) dX1_weigh_38 ⟨Nat.le_of_ble_eq_true rfl, Nat.le_of_ble_eq_true rfl⟩) hS (fun v_3 H locs w_4 hR hS => ?_)
        have f_5 := w_4
        refine lv_topl (fun x_6 ex_7 => ?_)
        refine lv_lstore (lv' := [(5, .long x_6), (0, .ref (G.2.1 21)), (1, .int hr), (2, .int pa), (3, .long x3)]) hC.x hC.b dX1_weigh_41 hl (by decide) rfl (fun ls hl => ?_)
        have hx5 : x_6.toInt = mo6 pa (SW6 (σ 22) 24) := by rw [ex_7, f_5, hi1_5, show n = 24 by omega]; unfold mo6; rw [show (1 : Int64).toInt = 1 from by decide]
        have hm1 : 1 ≤ mo6 pa (SW6 (σ 22) 24) := by unfold mo6; omega
        refine lv_iconst (v := 0) hC.x hC.b dX1_weigh_43 (by decide) ?_
        refine lv_istore (lv' := [(7, .int (0 : Int32)), (5, .long x_6), (0, .ref (G.2.1 21)), (1, .int hr), (2, .int pa), (3, .long x3)]) hC.x hC.b dX1_weigh_44 hl (by decide) rfl (fun ls hl => ?_)
        have L_46 : ∀ (F : Nat) (n : Nat) (s1 : SI) (t1 : SL), (24 - n) < F → (n ≤ 24) → (WG6 σ s1 hr (mo6 pa (SW6 (σ 22) 24)) n) → (CG σ s1) → ∀ (H : Heap) (locs : List Loc) (ls : Array Slot), RepH G s1 t1 H → va_S A s.heap H locs → lv_has ls 8 [(0, .ref (G.2.1 21)), (1, .int hr), (2, .int pa), (5, .long x_6), (7, .int (nI n))] → W p l e (rmD 1) s m args below meth c H locs 0 0 (MQ below (va_Qv (po6_X1_weigh σ τ hr pa) (BU G) A) args s 0 0 A) (F0 m 46 ls []) := by
          intro F
          induction F with
          | zero => intro n s1 t1 hm; exact absurd hm (Nat.not_lt_zero _)
          | succ F ih_46 =>
            intro n s1 t1 hm_46 hi0_46 hi1_46 hi2_46 H locs ls hR hS hl
            have hnI := nI_T n (by omega)
            refine lv_iload hC.x hC.b dX1_weigh_46 (lv_at hl 4 rfl) ?_
            refine lv_bipush (v := 24) hC.x hC.b dX1_weigh_48 (by decide) ?_
            refine bi_ge (tgt := 84) (a := (n : Int)) (b := 24) hC.x hC.b (nI_T n (by omega)) rfl dX1_weigh_50 (by decide) (fun c_8 => ?_) (fun c_8 => ?_)
            · skip
              exact retv hC hK hR hS (⟨by exact hi2_46, by (try dsimp only); (have e9 : n = 24 := by omega); exact e9 ▸ hi1_46⟩) dX1_weigh_84
            · skip
              refine lv_aload_n hC.x hC.b dX1_weigh_53 rfl (lv_at hl 0 rfl) ?_
              refine rget hC hK hR (ct_closing G _ _) rfl uin_X1 2 (by decide) TF_X1_27 rfl dX1_weigh_54 ?_
              refine lv_iconst (v := 3) hC.x hC.b dX1_weigh_57 (by decide) ?_
              refine lv_iload_n hC.x hC.b dX1_weigh_58 rfl (lv_at hl 1 rfl) ?_
              refine lv_iload hC.x hC.b dX1_weigh_59 (lv_at hl 4 rfl) ?_
              refine lv_aload_n hC.x hC.b dX1_weigh_61 rfl (lv_at hl 0 rfl) ?_
              refine rget hC hK hR (ct_closing G _ _) rfl uin_X1 5 (by decide) TF_X1_9 rfl dX1_weigh_62 ?_
              refine lv_iload hC.x hC.b dX1_weigh_65 (lv_at hl 4 rfl) ?_
              refine ald hC hK hR (ct_fullWeights G _ _) (nI_T n (by omega)) (by omega) (by omega) (Int.toNat_natCast _) dX1_weigh_67 ?_
              have rd_9 : (s1 22 n).toInt = (σ 22 n).toInt := congrArg Int32.toInt (show s1 22 n = σ 22 n from congrFun (hi2_46.1 22 (by first | omega | (dsimp only; omega))) n)
              refine lv_i2l hC.x hC.b dX1_weigh_68 rfl ?_
              refine lv_lload hC.x hC.b dX1_weigh_69 (lv_at hl 3 rfl) ?_
              have av_10 : ((s1 22 n).toInt64).toInt = (s1 22 n).toInt := (i2lI rfl)
              refine golp (runS (As := [.long ((s1 22 n).toInt64), .long x_6]) (rest := [.int (nI n), .int hr, .int (3 : Int32), .ref (G.2.1 5)]) hC hK hR hl.1 (c_J9_min_f86c9 l hG s1 t1 ((s1 22 n).toInt64) x_6 ) (call_b hC.ts TC_J9_min_f86c9 TN_J9 TM_X1_120 hd_J9_min_f86c9 ⟨Nat.le_of_ble_eq_true rfl, Nat.le_of_ble_eq_true rfl⟩) TT_J9_min_f86c9 rfl rfl (Nat.le_of_ble_eq_true rfl) dX1_weigh_71 ⟨Nat.le_of_ble_eq_true rfl, Nat.le_of_ble_eq_true rfl⟩) hS (fun v_11 H locs w_12 hR hS => ?_)
              have f_13 := w_12
              refine lv_l2i hC.x hC.b dX1_weigh_74 rfl ?_
              have av_14 : (3 : Int32).toInt = 3 := by decide
              have av_15 : (nI n).toInt = (n : Int) := (nI_T n (by omega))
              refine gov (runV (As := [.int (3 : Int32), .int hr, .int (nI n), .int v_11.toInt32]) (rest := []) hC hK hR hl.1 (c6_X7_tell l hG s1 t1 (3 : Int32) 3 (by first | rfl | (rw [show (3 : Int32).toInt = 3 from rfl]; done) | (rw [show (3 : Int32).toInt = 3 from rfl]; exact rfl)) hr (nI n) n (by first | rfl | (rw [show (nI n).toInt = (n : Int) from (nI_T n (by omega))]; done) | (rw [show (nI n).toInt = (n : Int) from (nI_T n (by omega))]; exact (Int.toNat_natCast _))) v_11.toInt32 (by omega)) (call_b hC.ts TC_X7_tell TN_X7 TM_X1_98 hd_X7_tell ⟨Nat.le_of_ble_eq_true rfl, Nat.le_of_ble_eq_true rfl⟩) TI_X7_tell TS_X7_tell (ct_told G _ _) rfl rfl rfl (Nat.le_of_ble_eq_true rfl) dX1_weigh_75 ⟨Nat.le_of_ble_eq_true rfl, Nat.le_of_ble_eq_true rfl⟩) hS (fun s_18 t_19 H locs w_17 hR hS => ?_)
              try dsimp only [po6_X7_tell] at w_17
              obtain ⟨f_20, f_21⟩ := w_17
              refine lv_iinc (v := nI (n + 1)) (lv' := [(7, .int (nI (n + 1))), (0, .ref (G.2.1 21)), (1, .int hr), (2, .int pa), (5, .long x_6)]) hC.x hC.b dX1_weigh_78 hl (k := 4) rfl (nI_succ _).symm (by decide) rfl (fun ls hl => ?_)
              refine lv_goto (tgt := 46) hC.x hC.b dX1_weigh_81 (by decide) ?_
              exact ih_46 (n + 1) s_18 t_19 (by omega) (by first | omega | assumption) (by exact WG6.go hi1_46 hm1 hx5 (by assumption) f_21) (CG.tr hi2_46 f_20) _ _ _ hR hS (lv_sub hl [1, 2, 3, 4, 0] rfl)
        exact L_46 _ 0 σ τ (Nat.lt_succ_self _) (by first | omega | assumption) (by exact WG6.st) CG.rf _ _ _ hR hS (lv_sub hl [2, 3, 4, 1, 0] rfl)
      · skip
        refine lv_lload_n hC.x hC.b dX1_weigh_12 rfl (lv_at hl 3 rfl) ?_
        refine lv_aload_n hC.x hC.b dX1_weigh_13 rfl (lv_at hl 0 rfl) ?_
        refine rget hC hK hR (ct_closing G _ _) rfl uin_X1 5 (by decide) TF_X1_9 rfl dX1_weigh_14 ?_
        refine lv_iload hC.x hC.b dX1_weigh_17 (lv_at hl 4 rfl) ?_
        refine ald hC hK hR (ct_fullWeights G _ _) (nI_T n (by omega)) (by omega) (by omega) (Int.toNat_natCast _) dX1_weigh_19 ?_
        refine lv_i2l hC.x hC.b dX1_weigh_20 rfl ?_
        refine lv_ladd hC.x hC.b dX1_weigh_21 ?_
        refine lv_topl (fun x_22 ex_23 => ?_)
        refine lv_lstore_n (lv' := [(3, .long x_22), (0, .ref (G.2.1 21)), (1, .int hr), (2, .int pa), (5, .int (nI n))]) hC.x hC.b dX1_weigh_22 rfl hl (by decide) rfl (fun ls hl => ?_)
        refine lv_iinc (v := nI (n + 1)) (lv' := [(5, .int (nI (n + 1))), (3, .long x_22), (0, .ref (G.2.1 21)), (1, .int hr), (2, .int pa)]) hC.x hC.b dX1_weigh_23 hl (k := 4) rfl (nI_succ _).symm (by decide) rfl (fun ls hl => ?_)
        refine lv_goto (tgt := 5) hC.x hC.b dX1_weigh_26 (by decide) ?_
        exact ih_5 (n + 1) x_22 (by omega) (by first | omega | assumption) (by rw [ex_23]; show _ = SW6 (σ 22) n + _; rw [hi1_5]) _ _ _ hR hS (lv_sub hl [2, 3, 4, 1, 0] rfl)
  exact L_5 _ 0 (0 : Int64) (Nat.lt_succ_self _) (by first | omega | assumption) (by rfl) _ _ _ hR hS (lv_sub hl [2, 3, 4, 1, 0] rfl)

abbrev po6_X1_makePaper (σ : SI) (τ : SL) (hr : Int32) : Int64 → SI × SL → Prop := fun v u => ((CG σ u.1) ∧ (MP6 σ u.1 hr v))
set_option maxRecDepth 100000 in
set_option maxHeartbeats 4000000 in
theorem c6_X1_makePaper (l : Launch) {G : Gx} {A : Nat → Prop} (hG : GOk G A) (σ : SI) (τ : SL) (hr : Int32) (hh2 : 0 ≤ hr.toInt ∧ hr.toInt < 200) : ML l G A 1 yX1_makePaper cX1_makePaper 9 (some .long) [.ref (G.2.1 21), .int hr] (σ, τ) (po6_X1_makePaper σ τ hr) := by
  refine met_of (own := RX1) (by decide +kernel) rfl [(0, .ref (G.2.1 21)), (1, .int hr)] rfl (Nat.le_of_ble_eq_true rfl) ?_
  intro p e s m args below meth c ls hC hK hR hl
  have hS : va_S A s.heap s.heap [] := va_S.rf
  refine lv_lconst (v := 0) hC.x hC.b dX1_makePaper_0 (by decide) ?_
  refine lv_lstore_n (lv' := [(2, .long (0 : Int64)), (0, .ref (G.2.1 21)), (1, .int hr)]) hC.x hC.b dX1_makePaper_1 rfl hl (by decide) rfl (fun ls hl => ?_)
  refine lv_lconst (v := 0) hC.x hC.b dX1_makePaper_2 (by decide) ?_
  refine lv_lstore (lv' := [(4, .long (0 : Int64)), (2, .long (0 : Int64)), (0, .ref (G.2.1 21)), (1, .int hr)]) hC.x hC.b dX1_makePaper_3 hl (by decide) rfl (fun ls hl => ?_)
  refine lv_iconst (v := 0) hC.x hC.b dX1_makePaper_5 (by decide) ?_
  refine lv_istore (lv' := [(6, .int (0 : Int32)), (4, .long (0 : Int64)), (2, .long (0 : Int64)), (0, .ref (G.2.1 21)), (1, .int hr)]) hC.x hC.b dX1_makePaper_6 hl (by decide) rfl (fun ls hl => ?_)
  have L_8 : ∀ (F : Nat) (n : Nat) (x2 : Int64) (x4 : Int64), (24 - n) < F → (n ≤ 24) → ((x2, x4) = SAc σ hr n) → ∀ (H : Heap) (locs : List Loc) (ls : Array Slot), RepH G σ τ H → va_S A s.heap H locs → lv_has ls 9 [(0, .ref (G.2.1 21)), (1, .int hr), (2, .long x2), (4, .long x4), (6, .int (nI n))] → W p l e (rmD 1) s m args below meth c H locs 0 0 (MQ below (va_Ql (po6_X1_makePaper σ τ hr) (BU G) A) args s 0 0 A) (F0 m 8 ls []) := by
    intro F
    induction F with
    | zero => intro n x2 x4 hm; exact absurd hm (Nat.not_lt_zero _)
    | succ F ih_8 =>
      intro n x2 x4 hm_8 hi0_8 hi1_8 H locs ls hR hS hl
      have hnI := nI_T n (by omega)
      refine lv_iload hC.x hC.b dX1_makePaper_8 (lv_at hl 4 rfl) ?_
      refine lv_bipush (v := 24) hC.x hC.b dX1_makePaper_10 (by decide) ?_
      refine bi_ge (tgt := 85) (a := (n : Int)) (b := 24) hC.x hC.b (nI_T n (by omega)) rfl dX1_makePaper_12 (by decide) (fun c_1 => ?_) (fun c_1 => ?_)
      · skip
        refine lv_aload_n hC.x hC.b dX1_makePaper_85 rfl (lv_at hl 0 rfl) ?_
        refine rget hC hK hR (ct_closing G _ _) rfl uin_X1 2 (by decide) TF_X1_27 rfl dX1_makePaper_86 ?_
        refine lv_iconst (v := 2) hC.x hC.b dX1_makePaper_89 (by decide) ?_
        refine lv_iload_n hC.x hC.b dX1_makePaper_90 rfl (lv_at hl 1 rfl) ?_
        refine lv_lload_n hC.x hC.b dX1_makePaper_91 rfl (lv_at hl 2 rfl) ?_
        refine lv_l2i hC.x hC.b dX1_makePaper_92 rfl ?_
        have av_2 : (2 : Int32).toInt = 2 := by decide
        refine gov (runV (As := [.int (2 : Int32), .int hr, .int x2.toInt32]) (rest := []) hC hK hR hl.1 (c6_X7_tellPaper l hG σ τ (2 : Int32) 2 (by first | rfl | (rw [show (2 : Int32).toInt = 2 from rfl]; done) | (rw [show (2 : Int32).toInt = 2 from rfl]; exact rfl)) hr x2.toInt32 (by omega)) (call_b hC.ts TC_X7_tellPaper TN_X7 TM_X1_67 hd_X7_tellPaper ⟨Nat.le_of_ble_eq_true rfl, Nat.le_of_ble_eq_true rfl⟩) TI_X7_tellPaper TS_X7_tellPaper (ct_told G _ _) rfl rfl rfl (Nat.le_of_ble_eq_true rfl) dX1_makePaper_93 ⟨Nat.le_of_ble_eq_true rfl, Nat.le_of_ble_eq_true rfl⟩) hS (fun s_5 t_6 H locs w_4 hR hS => ?_)
        try dsimp only [po6_X7_tellPaper] at w_4
        obtain ⟨f_7, f_8⟩ := w_4
        refine lv_aload_n hC.x hC.b dX1_makePaper_96 rfl (lv_at hl 0 rfl) ?_
        refine rget hC hK hR (ct_closing G _ _) rfl uin_X1 2 (by decide) TF_X1_27 rfl dX1_makePaper_97 ?_
        refine lv_iconst (v := 3) hC.x hC.b dX1_makePaper_100 (by decide) ?_
        refine lv_iload_n hC.x hC.b dX1_makePaper_101 rfl (lv_at hl 1 rfl) ?_
        refine lv_lload_n hC.x hC.b dX1_makePaper_102 rfl (lv_at hl 2 rfl) ?_
        refine lv_lconst (v := 0) hC.x hC.b dX1_makePaper_103 (by decide) ?_
        refine bl_le (tgt := 118) (a := x2.toInt) (b := 0) hC.x hC.b rfl rfl dX1_makePaper_104 dX1_makePaper_105 (by decide) (fun c_9 => ?_) (fun c_9 => ?_)
        · skip
          refine lv_iconst (v := 0) hC.x hC.b dX1_makePaper_118 (by decide) ?_
          have av_10 : (3 : Int32).toInt = 3 := by decide
          have av_11 : (0 : Int32).toInt = 0 := by decide
          refine gov (runV (As := [.int (3 : Int32), .int hr, .int (0 : Int32)]) (rest := []) hC hK hR hl.1 (c6_X7_tellPaper l hG s_5 t_6 (3 : Int32) 3 (by first | rfl | (rw [show (3 : Int32).toInt = 3 from rfl]; done) | (rw [show (3 : Int32).toInt = 3 from rfl]; exact rfl)) hr (0 : Int32) (by omega)) (call_b hC.ts TC_X7_tellPaper TN_X7 TM_X1_67 hd_X7_tellPaper ⟨Nat.le_of_ble_eq_true rfl, Nat.le_of_ble_eq_true rfl⟩) TI_X7_tellPaper TS_X7_tellPaper (ct_told G _ _) rfl rfl rfl (Nat.le_of_ble_eq_true rfl) dX1_makePaper_119 ⟨Nat.le_of_ble_eq_true rfl, Nat.le_of_ble_eq_true rfl⟩) hS (fun s_14 t_15 H locs w_13 hR hS => ?_)
          try dsimp only [po6_X7_tellPaper] at w_13
          obtain ⟨f_16, f_17⟩ := w_13
          refine lv_lload_n hC.x hC.b dX1_makePaper_122 rfl (lv_at hl 2 rfl) ?_
          refine lv_lconst (v := 0) hC.x hC.b dX1_makePaper_123 (by decide) ?_
          refine bl_le (tgt := 137) (a := x2.toInt) (b := 0) hC.x hC.b rfl rfl dX1_makePaper_124 dX1_makePaper_125 (by decide) (fun c_18 => ?_) (fun c_18 => ?_)
          · skip
            refine lv_lconst (v := 0) hC.x hC.b dX1_makePaper_137 (by decide) ?_
            exact retl hC hK hR hS (⟨by exact (CG.tr (CG.tr CG.rf f_7) f_16), by (try dsimp only); first | exact mp6_n (show (x2, x4) = SAc σ hr 24 from (show n = 24 by omega) ▸ hi1_8) f_8 f_17 (by omega) | exact mp6_y (show (x2, x4) = SAc σ hr 24 from (show n = 24 by omega) ▸ hi1_8) f_8 f_17 (by omega) (by assumption) (by assumption) | (exfalso; omega)⟩) dX1_makePaper_138
          · skip
            refine lv_lload hC.x hC.b dX1_makePaper_128 (lv_at hl 3 rfl) ?_
            refine lv_lload_n hC.x hC.b dX1_makePaper_130 rfl (lv_at hl 2 rfl) ?_
            refine golp (runS (As := [.long x4, .long x2]) (rest := []) hC hK hR hl.1 (c5_J9_floorDiv_f86c9 l hG s_14 t_15 x4 x2 (by omega)) (call_b hC.ts TC_J9_floorDiv_f86c9 TN_J9 TM_X1_131 hd_J9_floorDiv_f86c9 ⟨Nat.le_of_ble_eq_true rfl, Nat.le_of_ble_eq_true rfl⟩) TT_J9_floorDiv_f86c9 rfl rfl (Nat.le_of_ble_eq_true rfl) dX1_makePaper_131 ⟨Nat.le_of_ble_eq_true rfl, Nat.le_of_ble_eq_true rfl⟩) hS (fun v_19 H locs w_20 hR hS => ?_)
            have f_21 := w_20
            refine lv_goto (tgt := 138) hC.x hC.b dX1_makePaper_134 (by decide) ?_
            exact retl hC hK hR hS (⟨by exact (CG.tr (CG.tr CG.rf f_7) f_16), by (try dsimp only); first | exact mp6_n (show (x2, x4) = SAc σ hr 24 from (show n = 24 by omega) ▸ hi1_8) f_8 f_17 (by omega) | exact mp6_y (show (x2, x4) = SAc σ hr 24 from (show n = 24 by omega) ▸ hi1_8) f_8 f_17 (by omega) (by assumption) (by assumption) | (exfalso; omega)⟩) dX1_makePaper_138
        · skip
          refine lv_lload hC.x hC.b dX1_makePaper_108 (lv_at hl 3 rfl) ?_
          refine lv_lload_n hC.x hC.b dX1_makePaper_110 rfl (lv_at hl 2 rfl) ?_
          refine golp (runS (As := [.long x4, .long x2]) (rest := [.int hr, .int (3 : Int32), .ref (G.2.1 5)]) hC hK hR hl.1 (c5_J9_floorMod_f86c9 l hG s_5 t_6 x4 x2 (by omega)) (call_b hC.ts TC_J9_floorMod_f86c9 TN_J9 TM_X1_128 hd_J9_floorMod_f86c9 ⟨Nat.le_of_ble_eq_true rfl, Nat.le_of_ble_eq_true rfl⟩) TT_J9_floorMod_f86c9 rfl rfl (Nat.le_of_ble_eq_true rfl) dX1_makePaper_111 ⟨Nat.le_of_ble_eq_true rfl, Nat.le_of_ble_eq_true rfl⟩) hS (fun v_22 H locs w_23 hR hS => ?_)
          have f_24 := w_23
          refine lv_l2i hC.x hC.b dX1_makePaper_114 rfl ?_
          refine lv_goto (tgt := 119) hC.x hC.b dX1_makePaper_115 (by decide) ?_
          have av_25 : (3 : Int32).toInt = 3 := by decide
          refine gov (runV (As := [.int (3 : Int32), .int hr, .int v_22.toInt32]) (rest := []) hC hK hR hl.1 (c6_X7_tellPaper l hG s_5 t_6 (3 : Int32) 3 (by first | rfl | (rw [show (3 : Int32).toInt = 3 from rfl]; done) | (rw [show (3 : Int32).toInt = 3 from rfl]; exact rfl)) hr v_22.toInt32 (by omega)) (call_b hC.ts TC_X7_tellPaper TN_X7 TM_X1_67 hd_X7_tellPaper ⟨Nat.le_of_ble_eq_true rfl, Nat.le_of_ble_eq_true rfl⟩) TI_X7_tellPaper TS_X7_tellPaper (ct_told G _ _) rfl rfl rfl (Nat.le_of_ble_eq_true rfl) dX1_makePaper_119 ⟨Nat.le_of_ble_eq_true rfl, Nat.le_of_ble_eq_true rfl⟩) hS (fun s_28 t_29 H locs w_27 hR hS => ?_)
          try dsimp only [po6_X7_tellPaper] at w_27
          obtain ⟨f_30, f_31⟩ := w_27
          refine lv_lload_n hC.x hC.b dX1_makePaper_122 rfl (lv_at hl 2 rfl) ?_
          refine lv_lconst (v := 0) hC.x hC.b dX1_makePaper_123 (by decide) ?_
          refine bl_le (tgt := 137) (a := x2.toInt) (b := 0) hC.x hC.b rfl rfl dX1_makePaper_124 dX1_makePaper_125 (by decide) (fun c_32 => ?_) (fun c_32 => ?_)
          · skip
            refine lv_lconst (v := 0) hC.x hC.b dX1_makePaper_137 (by decide) ?_
            exact retl hC hK hR hS (⟨by exact (CG.tr (CG.tr CG.rf f_7) f_30), by (try dsimp only); first | exact mp6_n (show (x2, x4) = SAc σ hr 24 from (show n = 24 by omega) ▸ hi1_8) f_8 f_31 (by omega) | exact mp6_y (show (x2, x4) = SAc σ hr 24 from (show n = 24 by omega) ▸ hi1_8) f_8 f_31 (by omega) (by assumption) (by assumption) | (exfalso; omega)⟩) dX1_makePaper_138
          · skip
            refine lv_lload hC.x hC.b dX1_makePaper_128 (lv_at hl 3 rfl) ?_
            refine lv_lload_n hC.x hC.b dX1_makePaper_130 rfl (lv_at hl 2 rfl) ?_
            refine golp (runS (As := [.long x4, .long x2]) (rest := []) hC hK hR hl.1 (c5_J9_floorDiv_f86c9 l hG s_28 t_29 x4 x2 (by omega)) (call_b hC.ts TC_J9_floorDiv_f86c9 TN_J9 TM_X1_131 hd_J9_floorDiv_f86c9 ⟨Nat.le_of_ble_eq_true rfl, Nat.le_of_ble_eq_true rfl⟩) TT_J9_floorDiv_f86c9 rfl rfl (Nat.le_of_ble_eq_true rfl) dX1_makePaper_131 ⟨Nat.le_of_ble_eq_true rfl, Nat.le_of_ble_eq_true rfl⟩) hS (fun v_33 H locs w_34 hR hS => ?_)
            have f_35 := w_34
            refine lv_goto (tgt := 138) hC.x hC.b dX1_makePaper_134 (by decide) ?_
            exact retl hC hK hR hS (⟨by exact (CG.tr (CG.tr CG.rf f_7) f_30), by (try dsimp only); first | exact mp6_n (show (x2, x4) = SAc σ hr 24 from (show n = 24 by omega) ▸ hi1_8) f_8 f_31 (by omega) | exact mp6_y (show (x2, x4) = SAc σ hr 24 from (show n = 24 by omega) ▸ hi1_8) f_8 f_31 (by omega) (by assumption) (by assumption) | (exfalso; omega)⟩) dX1_makePaper_138
      · skip
        refine lv_aload_n hC.x hC.b dX1_makePaper_15 rfl (lv_at hl 0 rfl) ?_
        refine rget hC hK hR (ct_closing G _ _) rfl uin_X1 2 (by decide) TF_X1_27 rfl dX1_makePaper_16 ?_
        refine lv_iconst (v := 3) hC.x hC.b dX1_makePaper_19 (by decide) ?_
        refine lv_iload_n hC.x hC.b dX1_makePaper_20 rfl (lv_at hl 1 rfl) ?_
        refine lv_iload hC.x hC.b dX1_makePaper_21 (lv_at hl 4 rfl) ?_
        have av_36 : (3 : Int32).toInt = 3 := by decide
        have av_37 : (nI n).toInt = (n : Int) := (nI_T n (by omega))
        refine goip (runV (As := [.int (3 : Int32), .int hr, .int (nI n)]) (rest := []) hC hK hR hl.1 (c5_X7_ofClock l hG σ τ (3 : Int32) hr (nI n) ) (call_b hC.ts TC_X7_ofClock TN_X7 TM_X1_123 hd_X7_ofClock ⟨Nat.le_of_ble_eq_true rfl, Nat.le_of_ble_eq_true rfl⟩) TI_X7_ofClock TS_X7_ofClock (ct_told G _ _) rfl rfl rfl (Nat.le_of_ble_eq_true rfl) dX1_makePaper_23 ⟨Nat.le_of_ble_eq_true rfl, Nat.le_of_ble_eq_true rfl⟩) hS (fun v_38 H locs w_39 hR hS => ?_)
        subst w_39
        rw [show (ofC σ (3 : Int32) hr (nI n)) = (σ 27 (24 * hr.toInt.toNat + n)) from ofC_v (w := 3) (by decide) (by omega) (by omega) hh2]
        refine lv_topi (fun x_40 ex_41 => ?_)
        refine lv_istore (lv' := [(7, .int x_40), (0, .ref (G.2.1 21)), (1, .int hr), (2, .long x2), (4, .long x4), (6, .int (nI n))]) hC.x hC.b dX1_makePaper_26 hl (by decide) rfl (fun ls hl => ?_)
        refine lv_aload_n hC.x hC.b dX1_makePaper_28 rfl (lv_at hl 1 rfl) ?_
        refine rget hC hK hR (ct_closing G _ _) rfl uin_X1 2 (by decide) TF_X1_27 rfl dX1_makePaper_29 ?_
        refine lv_iconst (v := 1) hC.x hC.b dX1_makePaper_32 (by decide) ?_
        refine lv_iload_n hC.x hC.b dX1_makePaper_33 rfl (lv_at hl 2 rfl) ?_
        refine lv_iload hC.x hC.b dX1_makePaper_34 (lv_at hl 5 rfl) ?_
        have av_42 : (1 : Int32).toInt = 1 := by decide
        have av_43 : (nI n).toInt = (n : Int) := (nI_T n (by omega))
        refine goip (runV (As := [.int (1 : Int32), .int hr, .int (nI n)]) (rest := []) hC hK hR hl.1 (c5_X7_ofClock l hG σ τ (1 : Int32) hr (nI n) ) (call_b hC.ts TC_X7_ofClock TN_X7 TM_X1_123 hd_X7_ofClock ⟨Nat.le_of_ble_eq_true rfl, Nat.le_of_ble_eq_true rfl⟩) TI_X7_ofClock TS_X7_ofClock (ct_told G _ _) rfl rfl rfl (Nat.le_of_ble_eq_true rfl) dX1_makePaper_36 ⟨Nat.le_of_ble_eq_true rfl, Nat.le_of_ble_eq_true rfl⟩) hS (fun v_44 H locs w_45 hR hS => ?_)
        subst w_45
        rw [show (ofC σ (1 : Int32) hr (nI n)) = (σ 25 (24 * hr.toInt.toNat + n)) from ofC_v (w := 1) (by decide) (by omega) (by omega) hh2]
        refine lv_topi (fun x_46 ex_47 => ?_)
        refine lv_istore (lv' := [(8, .int x_46), (7, .int x_40), (0, .ref (G.2.1 21)), (1, .int hr), (2, .long x2), (4, .long x4), (6, .int (nI n))]) hC.x hC.b dX1_makePaper_39 hl (by decide) rfl (fun ls hl => ?_)
        refine lv_iload hC.x hC.b dX1_makePaper_41 (lv_at hl 0 rfl) ?_
        refine lv_ldc hC.x hC.b hC.ow (hC.ts _ TK_X1_127) dX1_makePaper_43 ?_
        refine bi_eq (tgt := 79) (a := x_46.toInt) (b := 2000000000) hC.x hC.b rfl rfl dX1_makePaper_45 (by decide) (fun c_48 => ?_) (fun c_48 => ?_)
        · skip
          refine lv_iinc (v := nI (n + 1)) (lv' := [(6, .int (nI (n + 1))), (8, .int x_46), (7, .int x_40), (0, .ref (G.2.1 21)), (1, .int hr), (2, .long x2), (4, .long x4)]) hC.x hC.b dX1_makePaper_79 hl (k := 6) rfl (nI_succ _).symm (by decide) rfl (fun ls hl => ?_)
          refine lv_goto (tgt := 8) hC.x hC.b dX1_makePaper_82 (by decide) ?_
          exact ih_8 (n + 1) x2 x4 (by omega) (by first | omega | assumption) (by exact sac_n hi1_8 (by rw [← ex_47]; omega)) _ _ _ hR hS (lv_sub hl [3, 4, 5, 6, 0] rfl)
        · skip
          refine lv_lload_n hC.x hC.b dX1_makePaper_48 rfl (lv_at hl 4 rfl) ?_
          refine lv_iload hC.x hC.b dX1_makePaper_49 (lv_at hl 1 rfl) ?_
          refine lv_i2l hC.x hC.b dX1_makePaper_51 rfl ?_
          refine lv_ladd hC.x hC.b dX1_makePaper_52 ?_
          refine lv_lstore_n (lv' := [(2, .long (x2 + x_40.toInt64)), (8, .int x_46), (7, .int x_40), (0, .ref (G.2.1 21)), (1, .int hr), (4, .long x4), (6, .int (nI n))]) hC.x hC.b dX1_makePaper_53 rfl hl (by decide) rfl (fun ls hl => ?_)
          refine lv_lload hC.x hC.b dX1_makePaper_54 (lv_at hl 5 rfl) ?_
          refine lv_iload hC.x hC.b dX1_makePaper_56 (lv_at hl 2 rfl) ?_
          refine lv_i2l hC.x hC.b dX1_makePaper_58 rfl ?_
          refine lv_iload hC.x hC.b dX1_makePaper_59 (lv_at hl 1 rfl) ?_
          refine lv_i2l hC.x hC.b dX1_makePaper_61 rfl ?_
          refine lv_aload_n hC.x hC.b dX1_makePaper_62 rfl (lv_at hl 3 rfl) ?_
          refine rget hC hK hR (ct_closing G _ _) rfl uin_X1 2 (by decide) TF_X1_27 rfl dX1_makePaper_63 ?_
          refine lv_iconst (v := 4) hC.x hC.b dX1_makePaper_66 (by decide) ?_
          refine lv_iload_n hC.x hC.b dX1_makePaper_67 rfl (lv_at hl 4 rfl) ?_
          refine lv_iload hC.x hC.b dX1_makePaper_68 (lv_at hl 6 rfl) ?_
          have av_49 : (4 : Int32).toInt = 4 := by decide
          have av_50 : (nI n).toInt = (n : Int) := (nI_T n (by omega))
          refine goip (runV (As := [.int (4 : Int32), .int hr, .int (nI n)]) (rest := [.long x_46.toInt64, .long x_40.toInt64, .long x4]) hC hK hR hl.1 (c5_X7_ofClock l hG σ τ (4 : Int32) hr (nI n) ) (call_b hC.ts TC_X7_ofClock TN_X7 TM_X1_123 hd_X7_ofClock ⟨Nat.le_of_ble_eq_true rfl, Nat.le_of_ble_eq_true rfl⟩) TI_X7_ofClock TS_X7_ofClock (ct_told G _ _) rfl rfl rfl (Nat.le_of_ble_eq_true rfl) dX1_makePaper_70 ⟨Nat.le_of_ble_eq_true rfl, Nat.le_of_ble_eq_true rfl⟩) hS (fun v_51 H locs w_52 hR hS => ?_)
          subst w_52
          rw [show (ofC σ (4 : Int32) hr (nI n)) = (σ 28 (24 * hr.toInt.toNat + n)) from ofC_v (w := 4) (by decide) (by omega) (by omega) hh2]
          refine lv_i2l hC.x hC.b dX1_makePaper_73 rfl ?_
          refine lv_ladd hC.x hC.b dX1_makePaper_74 ?_
          refine lv_lmul hC.x hC.b dX1_makePaper_75 ?_
          refine lv_ladd hC.x hC.b dX1_makePaper_76 ?_
          refine lv_topl (fun x_53 ex_54 => ?_)
          refine lv_lstore (lv' := [(4, .long x_53), (2, .long (x2 + x_40.toInt64)), (8, .int x_46), (7, .int x_40), (0, .ref (G.2.1 21)), (1, .int hr), (6, .int (nI n))]) hC.x hC.b dX1_makePaper_77 hl (by decide) rfl (fun ls hl => ?_)
          refine lv_iinc (v := nI (n + 1)) (lv' := [(6, .int (nI (n + 1))), (4, .long x_53), (2, .long (x2 + x_40.toInt64)), (8, .int x_46), (7, .int x_40), (0, .ref (G.2.1 21)), (1, .int hr)]) hC.x hC.b dX1_makePaper_79 hl (k := 6) rfl (nI_succ _).symm (by decide) rfl (fun ls hl => ?_)
          refine lv_goto (tgt := 8) hC.x hC.b dX1_makePaper_82 (by decide) ?_
          exact ih_8 (n + 1) (x2 + x_40.toInt64) x_53 (by omega) (by first | omega | assumption) (by exact sac_s hi1_8 (by rw [← ex_47]; omega) (by rw [ex_41]) (by rw [ex_54, ex_41, ex_47])) _ _ _ hR hS (lv_sub hl [5, 6, 2, 1, 0] rfl)
  exact L_8 _ 0 (0 : Int64) (0 : Int64) (Nat.lt_succ_self _) (by first | omega | assumption) (by rfl) _ _ _ hR hS (lv_sub hl [3, 4, 2, 1, 0] rfl)

abbrev po6_X1_tellXs (σ : SI) (τ : SL) (hr : Int32) (xr : Int64) : SI × SL → Prop := fun u => ((CG σ u.1) ∧ (TW6 σ u.1 hr xr 24))
set_option maxRecDepth 100000 in
set_option maxHeartbeats 4000000 in
theorem c6_X1_tellXs (l : Launch) {G : Gx} {A : Nat → Prop} (hG : GOk G A) (σ : SI) (τ : SL) (hr : Int32) (xr : Int64) (hh2 : 0 ≤ hr.toInt ∧ hr.toInt < 200) : MV l G A 2 yX1_tellXs cX1_tellXs 9 none [.ref (G.2.1 21), .int hr, .long xr] (σ, τ) (po6_X1_tellXs σ τ hr xr) := by
  refine met_of (own := RX1) (by decide +kernel) rfl [(0, .ref (G.2.1 21)), (1, .int hr), (2, .long xr)] rfl (Nat.le_of_ble_eq_true rfl) ?_
  intro p e s m args below meth c ls hC hK hR hl
  have hS : va_S A s.heap s.heap [] := va_S.rf
  refine lv_iconst (v := 0) hC.x hC.b dX1_tellXs_0 (by decide) ?_
  refine lv_istore (lv' := [(4, .int (0 : Int32)), (0, .ref (G.2.1 21)), (1, .int hr), (2, .long xr)]) hC.x hC.b dX1_tellXs_1 hl (by decide) rfl (fun ls hl => ?_)
  have L_3 : ∀ (F : Nat) (n : Nat) (s1 : SI) (t1 : SL), (24 - n) < F → (n ≤ 24) → (TW6 σ s1 hr xr n) → (CG σ s1) → ∀ (H : Heap) (locs : List Loc) (ls : Array Slot), RepH G s1 t1 H → va_S A s.heap H locs → lv_has ls 9 [(0, .ref (G.2.1 21)), (1, .int hr), (2, .long xr), (4, .int (nI n))] → W p l e (rmD 2) s m args below meth c H locs 0 0 (MQ below (va_Qv (po6_X1_tellXs σ τ hr xr) (BU G) A) args s 0 0 A) (F0 m 3 ls []) := by
    intro F
    induction F with
    | zero => intro n s1 t1 hm; exact absurd hm (Nat.not_lt_zero _)
    | succ F ih_3 =>
      intro n s1 t1 hm_3 hi0_3 hi1_3 hi2_3 H locs ls hR hS hl
      have hnI := nI_T n (by omega)
      refine lv_iload hC.x hC.b dX1_tellXs_3 (lv_at hl 3 rfl) ?_
      refine lv_bipush (v := 24) hC.x hC.b dX1_tellXs_5 (by decide) ?_
      refine bi_ge (tgt := 103) (a := (n : Int)) (b := 24) hC.x hC.b (nI_T n (by omega)) rfl dX1_tellXs_7 (by decide) (fun c_1 => ?_) (fun c_1 => ?_)
      · skip
        exact retv hC hK hR hS (⟨by exact hi2_3, by (try dsimp only); (have e9 : n = 24 := by omega); exact e9 ▸ hi1_3⟩) dX1_tellXs_103
      · skip
        refine lv_aload_n hC.x hC.b dX1_tellXs_10 rfl (lv_at hl 0 rfl) ?_
        refine rget hC hK hR (ct_closing G _ _) rfl uin_X1 2 (by decide) TF_X1_27 rfl dX1_tellXs_11 ?_
        refine lv_iconst (v := 4) hC.x hC.b dX1_tellXs_14 (by decide) ?_
        refine lv_iload_n hC.x hC.b dX1_tellXs_15 rfl (lv_at hl 1 rfl) ?_
        refine lv_iload hC.x hC.b dX1_tellXs_16 (lv_at hl 3 rfl) ?_
        have av_2 : (4 : Int32).toInt = 4 := by decide
        have av_3 : (nI n).toInt = (n : Int) := (nI_T n (by omega))
        refine goip (runV (As := [.int (4 : Int32), .int hr, .int (nI n)]) (rest := []) hC hK hR hl.1 (c5_X7_ofClock l hG s1 t1 (4 : Int32) hr (nI n) ) (call_b hC.ts TC_X7_ofClock TN_X7 TM_X1_123 hd_X7_ofClock ⟨Nat.le_of_ble_eq_true rfl, Nat.le_of_ble_eq_true rfl⟩) TI_X7_ofClock TS_X7_ofClock (ct_told G _ _) rfl rfl rfl (Nat.le_of_ble_eq_true rfl) dX1_tellXs_18 ⟨Nat.le_of_ble_eq_true rfl, Nat.le_of_ble_eq_true rfl⟩) hS (fun v_4 H locs w_5 hR hS => ?_)
        subst w_5
        rw [show (ofC s1 (4 : Int32) hr (nI n)) = (s1 28 (24 * hr.toInt.toNat + n)) from ofC_v (w := 4) (by decide) (by omega) (by omega) hh2]
        refine lv_topi (fun x_6 ex_7 => ?_)
        refine lv_istore (lv' := [(5, .int x_6), (0, .ref (G.2.1 21)), (1, .int hr), (2, .long xr), (4, .int (nI n))]) hC.x hC.b dX1_tellXs_21 hl (by decide) rfl (fun ls hl => ?_)
        refine lv_iload hC.x hC.b dX1_tellXs_23 (lv_at hl 0 rfl) ?_
        refine lv_ldc hC.x hC.b hC.ow (hC.ts _ TK_X1_127) dX1_tellXs_25 ?_
        refine bi_ne (tgt := 33) (a := x_6.toInt) (b := 2000000000) hC.x hC.b rfl rfl dX1_tellXs_27 (by decide) (fun c_8 => ?_) (fun c_8 => ?_)
        · skip
          refine lv_lload_n hC.x hC.b dX1_tellXs_33 rfl (lv_at hl 3 rfl) ?_
          refine lv_iload hC.x hC.b dX1_tellXs_34 (lv_at hl 0 rfl) ?_
          refine lv_i2l hC.x hC.b dX1_tellXs_36 rfl ?_
          refine lv_lsub hC.x hC.b dX1_tellXs_37 ?_
          refine lv_topl (fun x_9 ex_10 => ?_)
          refine lv_lstore (lv' := [(6, .long x_9), (5, .int x_6), (0, .ref (G.2.1 21)), (1, .int hr), (2, .long xr), (4, .int (nI n))]) hC.x hC.b dX1_tellXs_38 hl (by decide) rfl (fun ls hl => ?_)
          refine lv_aload_n hC.x hC.b dX1_tellXs_40 rfl (lv_at hl 2 rfl) ?_
          refine rget hC hK hR (ct_closing G _ _) rfl uin_X1 2 (by decide) TF_X1_27 rfl dX1_tellXs_41 ?_
          refine lv_iconst (v := 1) hC.x hC.b dX1_tellXs_44 (by decide) ?_
          refine lv_iload_n hC.x hC.b dX1_tellXs_45 rfl (lv_at hl 3 rfl) ?_
          refine lv_iload hC.x hC.b dX1_tellXs_46 (lv_at hl 5 rfl) ?_
          have av_11 : (1 : Int32).toInt = 1 := by decide
          have av_12 : (nI n).toInt = (n : Int) := (nI_T n (by omega))
          refine goip (runV (As := [.int (1 : Int32), .int hr, .int (nI n)]) (rest := []) hC hK hR hl.1 (c5_X7_ofClock l hG s1 t1 (1 : Int32) hr (nI n) ) (call_b hC.ts TC_X7_ofClock TN_X7 TM_X1_123 hd_X7_ofClock ⟨Nat.le_of_ble_eq_true rfl, Nat.le_of_ble_eq_true rfl⟩) TI_X7_ofClock TS_X7_ofClock (ct_told G _ _) rfl rfl rfl (Nat.le_of_ble_eq_true rfl) dX1_tellXs_48 ⟨Nat.le_of_ble_eq_true rfl, Nat.le_of_ble_eq_true rfl⟩) hS (fun v_13 H locs w_14 hR hS => ?_)
          subst w_14
          rw [show (ofC s1 (1 : Int32) hr (nI n)) = (s1 25 (24 * hr.toInt.toNat + n)) from ofC_v (w := 1) (by decide) (by omega) (by omega) hh2]
          refine lv_topi (fun x_15 ex_16 => ?_)
          refine lv_istore (lv' := [(8, .int x_15), (6, .long x_9), (5, .int x_6), (0, .ref (G.2.1 21)), (1, .int hr), (2, .long xr), (4, .int (nI n))]) hC.x hC.b dX1_tellXs_51 hl (by decide) rfl (fun ls hl => ?_)
          refine lv_aload_n hC.x hC.b dX1_tellXs_53 rfl (lv_at hl 3 rfl) ?_
          refine rget hC hK hR (ct_closing G _ _) rfl uin_X1 2 (by decide) TF_X1_27 rfl dX1_tellXs_54 ?_
          refine lv_iconst (v := 0) hC.x hC.b dX1_tellXs_57 (by decide) ?_
          refine lv_iload_n hC.x hC.b dX1_tellXs_58 rfl (lv_at hl 4 rfl) ?_
          refine lv_iload hC.x hC.b dX1_tellXs_59 (lv_at hl 6 rfl) ?_
          refine lv_lload hC.x hC.b dX1_tellXs_61 (lv_at hl 1 rfl) ?_
          refine lv_l2i hC.x hC.b dX1_tellXs_63 rfl ?_
          have av_17 : (0 : Int32).toInt = 0 := by decide
          have av_18 : (nI n).toInt = (n : Int) := (nI_T n (by omega))
          refine gov (runV (As := [.int (0 : Int32), .int hr, .int (nI n), .int x_9.toInt32]) (rest := []) hC hK hR hl.1 (c6_X7_tell l hG s1 t1 (0 : Int32) 0 (by first | rfl | (rw [show (0 : Int32).toInt = 0 from rfl]; done) | (rw [show (0 : Int32).toInt = 0 from rfl]; exact rfl)) hr (nI n) n (by first | rfl | (rw [show (nI n).toInt = (n : Int) from (nI_T n (by omega))]; done) | (rw [show (nI n).toInt = (n : Int) from (nI_T n (by omega))]; exact (Int.toNat_natCast _))) x_9.toInt32 (by omega)) (call_b hC.ts TC_X7_tell TN_X7 TM_X1_98 hd_X7_tell ⟨Nat.le_of_ble_eq_true rfl, Nat.le_of_ble_eq_true rfl⟩) TI_X7_tell TS_X7_tell (ct_told G _ _) rfl rfl rfl (Nat.le_of_ble_eq_true rfl) dX1_tellXs_64 ⟨Nat.le_of_ble_eq_true rfl, Nat.le_of_ble_eq_true rfl⟩) hS (fun s_21 t_22 H locs w_20 hR hS => ?_)
          try dsimp only [po6_X7_tell] at w_20
          obtain ⟨f_23, f_24⟩ := w_20
          refine lv_iload hC.x hC.b dX1_tellXs_67 (lv_at hl 0 rfl) ?_
          refine lv_ldc hC.x hC.b hC.ow (hC.ts _ TK_X1_127) dX1_tellXs_69 ?_
          refine bi_eq (tgt := 97) (a := x_15.toInt) (b := 2000000000) hC.x hC.b rfl rfl dX1_tellXs_71 (by decide) (fun c_25 => ?_) (fun c_25 => ?_)
          · skip
            refine lv_iinc (v := nI (n + 1)) (lv' := [(4, .int (nI (n + 1))), (8, .int x_15), (6, .long x_9), (5, .int x_6), (0, .ref (G.2.1 21)), (1, .int hr), (2, .long xr)]) hC.x hC.b dX1_tellXs_97 hl (k := 6) rfl (nI_succ _).symm (by decide) rfl (fun ls hl => ?_)
            refine lv_goto (tgt := 3) hC.x hC.b dX1_tellXs_100 (by decide) ?_
            exact ih_3 (n + 1) s_21 t_22 (by omega) (by first | omega | assumption) (by exact TW6.x hi1_3 (by rw [← ex_7]; omega) (by rw [ex_10, ex_7]) f_24 (Or.inl ⟨by rw [← ex_16]; omega, rfl⟩)) (CG.tr hi2_3 f_23) _ _ _ hR hS (lv_sub hl [4, 5, 6, 0] rfl)
          · skip
            refine lv_aload_n hC.x hC.b dX1_tellXs_74 rfl (lv_at hl 3 rfl) ?_
            refine rget hC hK hR (ct_closing G _ _) rfl uin_X1 2 (by decide) TF_X1_27 rfl dX1_tellXs_75 ?_
            refine lv_iconst (v := 2) hC.x hC.b dX1_tellXs_78 (by decide) ?_
            refine lv_iload_n hC.x hC.b dX1_tellXs_79 rfl (lv_at hl 4 rfl) ?_
            refine lv_iload hC.x hC.b dX1_tellXs_80 (lv_at hl 6 rfl) ?_
            refine lv_lload hC.x hC.b dX1_tellXs_82 (lv_at hl 1 rfl) ?_
            refine lv_iload hC.x hC.b dX1_tellXs_84 (lv_at hl 0 rfl) ?_
            refine lv_i2l hC.x hC.b dX1_tellXs_86 rfl ?_
            refine lv_lsub hC.x hC.b dX1_tellXs_87 ?_
            refine lv_sipush (v := 30000) hC.x hC.b dX1_tellXs_88 (by decide) ?_
            have av_26 : (30000 : Int32).toInt = 30000 := by decide
            refine goip (runSN (As := [.long (x_9 - x_15.toInt64), .int (30000 : Int32)]) (rest := [.int (nI n), .int hr, .int (2 : Int32), .ref (G.2.1 5)]) hC hK hR hl.1 (c_X9_cut l hG s_21 t_22 (x_9 - x_15.toInt64) (30000 : Int32) (by first | decide | omega)) (call_n hC.ts TC_X9_cut TN_X9 hK.2.2.2.2.2.2.2 hd_X9_cut ⟨Nat.le_of_ble_eq_true rfl, Nat.le_of_ble_eq_true rfl⟩) TT_X9_cut rfl rfl (Nat.le_of_ble_eq_true rfl) dX1_tellXs_91 ⟨Nat.le_of_ble_eq_true rfl, Nat.le_of_ble_eq_true rfl⟩) hS (fun v_27 H locs w_28 hR hS => ?_)
            have f_29 := w_28
            have av_30 : (2 : Int32).toInt = 2 := by decide
            have av_31 : (nI n).toInt = (n : Int) := (nI_T n (by omega))
            refine gov (runV (As := [.int (2 : Int32), .int hr, .int (nI n), .int v_27]) (rest := []) hC hK hR hl.1 (c6_X7_tell l hG s_21 t_22 (2 : Int32) 2 (by first | rfl | (rw [show (2 : Int32).toInt = 2 from rfl]; done) | (rw [show (2 : Int32).toInt = 2 from rfl]; exact rfl)) hr (nI n) n (by first | rfl | (rw [show (nI n).toInt = (n : Int) from (nI_T n (by omega))]; done) | (rw [show (nI n).toInt = (n : Int) from (nI_T n (by omega))]; exact (Int.toNat_natCast _))) v_27 (by omega)) (call_b hC.ts TC_X7_tell TN_X7 TM_X1_98 hd_X7_tell ⟨Nat.le_of_ble_eq_true rfl, Nat.le_of_ble_eq_true rfl⟩) TI_X7_tell TS_X7_tell (ct_told G _ _) rfl rfl rfl (Nat.le_of_ble_eq_true rfl) dX1_tellXs_94 ⟨Nat.le_of_ble_eq_true rfl, Nat.le_of_ble_eq_true rfl⟩) hS (fun s_34 t_35 H locs w_33 hR hS => ?_)
            try dsimp only [po6_X7_tell] at w_33
            obtain ⟨f_36, f_37⟩ := w_33
            refine lv_iinc (v := nI (n + 1)) (lv' := [(4, .int (nI (n + 1))), (8, .int x_15), (6, .long x_9), (5, .int x_6), (0, .ref (G.2.1 21)), (1, .int hr), (2, .long xr)]) hC.x hC.b dX1_tellXs_97 hl (k := 6) rfl (nI_succ _).symm (by decide) rfl (fun ls hl => ?_)
            refine lv_goto (tgt := 3) hC.x hC.b dX1_tellXs_100 (by decide) ?_
            exact ih_3 (n + 1) s_34 t_35 (by omega) (by first | omega | assumption) (by exact TW6.x hi1_3 (by rw [← ex_7]; omega) (by rw [ex_10, ex_7]) f_24 (Or.inr ⟨by rw [← ex_16]; omega, _, (by unfold cv6; rw [← ex_16, f_29, show (30000 : Int32).toInt = 30000 from by decide]), f_37⟩)) (CG.tr (CG.tr hi2_3 f_23) f_36) _ _ _ hR hS (lv_sub hl [4, 5, 6, 0] rfl)
        · skip
          refine lv_goto (tgt := 97) hC.x hC.b dX1_tellXs_30 (by decide) ?_
          refine lv_iinc (v := nI (n + 1)) (lv' := [(4, .int (nI (n + 1))), (5, .int x_6), (0, .ref (G.2.1 21)), (1, .int hr), (2, .long xr)]) hC.x hC.b dX1_tellXs_97 hl (k := 4) rfl (nI_succ _).symm (by decide) rfl (fun ls hl => ?_)
          refine lv_goto (tgt := 3) hC.x hC.b dX1_tellXs_100 (by decide) ?_
          exact ih_3 (n + 1) s1 t1 (by omega) (by first | omega | assumption) (by exact TW6.n hi1_3 (by rw [← ex_7]; omega)) hi2_3 _ _ _ hR hS (lv_sub hl [2, 3, 4, 0] rfl)
  exact L_3 _ 0 σ τ (Nat.lt_succ_self _) (by first | omega | assumption) (by exact TW6.st) CG.rf _ _ _ hR hS (lv_sub hl [1, 2, 3, 0] rfl)

abbrev po6_X1_judgeSuspect (σ : SI) (τ : SL) (cq : Nat) (hr : Int32) (ma : Int32) : SI × SL → Prop := fun u => ((CG σ u.1) ∧ (JS6 σ u.1 cq hr ma))
set_option maxRecDepth 100000 in
set_option maxHeartbeats 4000000 in
theorem c6_X1_judgeSuspect (l : Launch) {G : Gx} {A : Nat → Prop} (hG : GOk G A) (σ : SI) (τ : SL) (cq : Nat) (hcq : cq < 24) (hr : Int32) (ma : Int32) (hhr : 0 ≤ hr.toInt ∧ hr.toInt ≤ 200) (hkq : KM6 σ cq hr) (hma : -30000 ≤ ma.toInt ∧ ma.toInt ≤ 30000) : MV l G A 2 yX1_judgeSuspect cX1_judgeSuspect 6 none [.ref (G.2.1 21), .ref (G.2.1 (80 + cq)), .int hr, .int ma] (σ, τ) (po6_X1_judgeSuspect σ τ cq hr ma) := by
  refine met_of (own := RX1) (by decide +kernel) rfl [(0, .ref (G.2.1 21)), (1, .ref (G.2.1 (80 + cq))), (2, .int hr), (3, .int ma)] rfl (Nat.le_of_ble_eq_true rfl) ?_
  intro p e s m args below meth c ls hC hK hR hl
  have hS : va_S A s.heap s.heap [] := va_S.rf
  obtain ⟨hk2, hk3, hkm⟩ := id hkq
  refine lv_aload_n hC.x hC.b dX1_judgeSuspect_0 rfl (lv_at hl 0 rfl) ?_
  refine rget hC hK hR (ct_closing G _ _) rfl uin_X1 3 (by decide) TF_X1_31 rfl dX1_judgeSuspect_1 ?_
  refine lv_aload_n hC.x hC.b dX1_judgeSuspect_4 rfl (lv_at hl 1 rfl) ?_
  refine lv_iload_n hC.x hC.b dX1_judgeSuspect_5 rfl (lv_at hl 2 rfl) ?_
  refine lv_iconst (v := 1) hC.x hC.b dX1_judgeSuspect_6 (by decide) ?_
  refine lv_isub hC.x hC.b dX1_judgeSuspect_7 ?_
  have pr_1 : (hr - (1 : Int32)).toInt = (hr.toInt - 1) := subI rfl rfl (by omega) (by omega)
  have av_2 : (hr - (1 : Int32)).toInt = (hr.toInt - 1) := pr_1
  refine goip (runV (As := [.ref (G.2.1 (80 + cq)), .int (hr - (1 : Int32))]) (rest := []) hC hK hR hl.1 (c5_X2_missedOf l hG σ τ cq hcq (hr - (1 : Int32)) ) (call_b hC.ts TC_X2_missedOf TN_X2 TM_X1_166 hd_X2_missedOf ⟨Nat.le_of_ble_eq_true rfl, Nat.le_of_ble_eq_true rfl⟩) TI_X2_missedOf TS_X2_missedOf (ct_fore G _ _) rfl rfl rfl (Nat.le_of_ble_eq_true rfl) dX1_judgeSuspect_8 ⟨Nat.le_of_ble_eq_true rfl, Nat.le_of_ble_eq_true rfl⟩) hS (fun v_3 H locs w_4 hR hS => ?_)
  subst w_4
  rw [show (xC σ 26 cq (hr - (1 : Int32)).toInt) = (xC σ 26 cq (hr.toInt - 1)) from by rw [show (hr - (1 : Int32)).toInt = hr.toInt - 1 by omega]]
  refine lv_topi (fun x_5 ex_6 => ?_)
  refine lv_istore (lv' := [(4, .int x_5), (0, .ref (G.2.1 21)), (1, .ref (G.2.1 (80 + cq))), (2, .int hr), (3, .int ma)]) hC.x hC.b dX1_judgeSuspect_11 hl (by decide) rfl (fun ls hl => ?_)
  refine lv_iload hC.x hC.b dX1_judgeSuspect_13 (lv_at hl 0 rfl) ?_
  refine lv_iload_n hC.x hC.b dX1_judgeSuspect_15 rfl (lv_at hl 4 rfl) ?_
  refine goip (runS (As := [.int x_5, .int ma]) (rest := []) hC hK hR hl.1 (c5_X2_haveOneSign l hG σ τ x_5 ma ) (call_b hC.ts TC_X2_haveOneSign TN_X2 TM_X1_169 hd_X2_haveOneSign ⟨Nat.le_of_ble_eq_true rfl, Nat.le_of_ble_eq_true rfl⟩) TT_X2_haveOneSign rfl rfl (Nat.le_of_ble_eq_true rfl) dX1_judgeSuspect_16 ⟨Nat.le_of_ble_eq_true rfl, Nat.le_of_ble_eq_true rfl⟩) hS (fun v_7 H locs w_8 hR hS => ?_)
  rcases w_8 with ⟨rfl, f_9⟩ | ⟨rfl, f_10⟩
  · skip
    refine bz_eq (tgt := 42) (a := 1) (b := 0) hC.x hC.b rfl rfl dX1_judgeSuspect_19 (by decide) (fun c_11 => absurd c_11 (by decide)) (fun _ => ?_)
    refine lv_iload_n hC.x hC.b dX1_judgeSuspect_22 rfl (lv_at hl 4 rfl) ?_
    refine goip (runS (As := [.int ma]) (rest := []) hC hK hR hl.1 (c_J9_abs_0f7a4 l hG σ τ ma ) (call_b hC.ts TC_J9_abs_0f7a4 TN_J9 TM_X1_159 hd_J9_abs_0f7a4 ⟨Nat.le_of_ble_eq_true rfl, Nat.le_of_ble_eq_true rfl⟩) TT_J9_abs_0f7a4 rfl rfl (Nat.le_of_ble_eq_true rfl) dX1_judgeSuspect_23 ⟨Nat.le_of_ble_eq_true rfl, Nat.le_of_ble_eq_true rfl⟩) hS (fun v_12 H locs w_13 hR hS => ?_)
    have f_14 := w_13
    refine lv_iload hC.x hC.b dX1_judgeSuspect_26 (lv_at hl 0 rfl) ?_
    refine goip (runS (As := [.int x_5]) (rest := [.int v_12]) hC hK hR hl.1 (c_J9_abs_0f7a4 l hG σ τ x_5 ) (call_b hC.ts TC_J9_abs_0f7a4 TN_J9 TM_X1_159 hd_J9_abs_0f7a4 ⟨Nat.le_of_ble_eq_true rfl, Nat.le_of_ble_eq_true rfl⟩) TT_J9_abs_0f7a4 rfl rfl (Nat.le_of_ble_eq_true rfl) dX1_judgeSuspect_28 ⟨Nat.le_of_ble_eq_true rfl, Nat.le_of_ble_eq_true rfl⟩) hS (fun v_15 H locs w_16 hR hS => ?_)
    have f_17 := w_16
    refine lv_iconst (v := 1) hC.x hC.b dX1_judgeSuspect_31 (by decide) ?_
    refine lv_iadd hC.x hC.b dX1_judgeSuspect_32 ?_
    refine lv_iconst (v := 2) hC.x hC.b dX1_judgeSuspect_33 (by decide) ?_
    refine lv_idiv hC.x hC.b dX1_judgeSuspect_34 (by decide) ?_
    have hst := st_c (b := x_5) (m := ma) (by rw [ex_6]; exact hkm _) hma (by assumption) (by assumption)
    refine bi_lt (tgt := 42) (a := v_12.toInt) (b := ((v_15 + (1 : Int32)) / (2 : Int32)).toInt) hC.x hC.b rfl rfl dX1_judgeSuspect_35 (by decide) (fun c_18 => ?_) (fun c_18 => ?_)
    · skip
      refine lv_iconst (v := 0) hC.x hC.b dX1_judgeSuspect_42 (by decide) ?_
      refine lv_istore (lv' := [(5, .int (0 : Int32)), (4, .int x_5), (0, .ref (G.2.1 21)), (1, .ref (G.2.1 (80 + cq))), (2, .int hr), (3, .int ma)]) hC.x hC.b dX1_judgeSuspect_43 hl (by decide) rfl (fun ls hl => ?_)
      refine lv_iload hC.x hC.b dX1_judgeSuspect_45 (lv_at hl 1 rfl) ?_
      refine lv_ldc hC.x hC.b hC.ow (hC.ts _ TK_X1_127) dX1_judgeSuspect_47 ?_
      refine bi_eq (tgt := 88) (a := x_5.toInt) (b := 2000000000) hC.x hC.b rfl rfl dX1_judgeSuspect_49 (by decide) (fun c_19 => ?_) (fun c_19 => ?_)
      · skip
        exact retv hC hK hR hS (⟨by exact CG.rf, by (try dsimp only); exact js_n ex_6 (by rintro ⟨h1, h2, h3⟩; first | omega | contradiction)⟩) dX1_judgeSuspect_88
      · skip
        refine lv_iload hC.x hC.b dX1_judgeSuspect_52 (lv_at hl 0 rfl) ?_
        refine bz_eq (tgt := 88) (a := 0) (b := 0) hC.x hC.b rfl rfl dX1_judgeSuspect_54 (by decide) (fun _ => ?_) (fun c_20 => absurd c_20 (by decide))
        exact retv hC hK hR hS (⟨by exact CG.rf, by (try dsimp only); exact js_n ex_6 (by rintro ⟨h1, h2, h3⟩; first | omega | contradiction)⟩) dX1_judgeSuspect_88
    · skip
      refine lv_iconst (v := 1) hC.x hC.b dX1_judgeSuspect_38 (by decide) ?_
      refine lv_goto (tgt := 43) hC.x hC.b dX1_judgeSuspect_39 (by decide) ?_
      refine lv_istore (lv' := [(5, .int (1 : Int32)), (4, .int x_5), (0, .ref (G.2.1 21)), (1, .ref (G.2.1 (80 + cq))), (2, .int hr), (3, .int ma)]) hC.x hC.b dX1_judgeSuspect_43 hl (by decide) rfl (fun ls hl => ?_)
      refine lv_iload hC.x hC.b dX1_judgeSuspect_45 (lv_at hl 1 rfl) ?_
      refine lv_ldc hC.x hC.b hC.ow (hC.ts _ TK_X1_127) dX1_judgeSuspect_47 ?_
      refine bi_eq (tgt := 88) (a := x_5.toInt) (b := 2000000000) hC.x hC.b rfl rfl dX1_judgeSuspect_49 (by decide) (fun c_21 => ?_) (fun c_21 => ?_)
      · skip
        exact retv hC hK hR hS (⟨by exact CG.rf, by (try dsimp only); exact js_n ex_6 (by rintro ⟨h1, h2, h3⟩; first | omega | contradiction)⟩) dX1_judgeSuspect_88
      · skip
        refine lv_iload hC.x hC.b dX1_judgeSuspect_52 (lv_at hl 0 rfl) ?_
        refine bz_eq (tgt := 88) (a := 1) (b := 0) hC.x hC.b rfl rfl dX1_judgeSuspect_54 (by decide) (fun c_22 => absurd c_22 (by decide)) (fun _ => ?_)
        refine lv_aload_n hC.x hC.b dX1_judgeSuspect_57 rfl (lv_at hl 3 rfl) ?_
        refine lv_iconst (v := 1) hC.x hC.b dX1_judgeSuspect_58 (by decide) ?_
        refine rputi hC hK hG hR hS (ct_clock hcq G _ _) rfl uin_X0 tyX0 tyX0_ok nmX0 7 (by decide) TF_X1_138 rfl (Or.inr ⟨rfl, (Or.inr rfl)⟩) (Nat.le_of_ble_eq_true rfl) rfl (ct_clock hcq G _ _) dX1_judgeSuspect_59 (fun s_24 es_23 H locs hR hS => ?_)
        refine lv_aload_n hC.x hC.b dX1_judgeSuspect_62 rfl (lv_at hl 3 rfl) ?_
        refine lv_dup hC.x hC.b dX1_judgeSuspect_63 rfl ?_
        refine rget hC hK hR (ct_clock hcq G _ _) rfl uin_X0 10 (by decide) TF_X1_173 rfl dX1_judgeSuspect_64 ?_
        have rd_25 : (s_24 (80 + cq) 10).toInt = (σ (80 + cq) 10).toInt := congrArg Int32.toInt (show s_24 (80 + cq) 10 = σ (80 + cq) 10 from (by rw [es_23]; exact up2_n (by omega)))
        refine lv_iconst (v := 1) hC.x hC.b dX1_judgeSuspect_67 (by decide) ?_
        refine lv_iadd hC.x hC.b dX1_judgeSuspect_68 ?_
        refine rputi hC hK hG hR hS (ct_clock hcq G _ _) rfl uin_X0 tyX0 tyX0_ok nmX0 10 (by decide) TF_X1_173 rfl (Or.inl rfl) (Nat.le_of_ble_eq_true rfl) rfl (ct_clock hcq G _ _) dX1_judgeSuspect_69 (fun s_27 es_26 H locs hR hS => ?_)
        refine lv_aload_n hC.x hC.b dX1_judgeSuspect_72 rfl (lv_at hl 2 rfl) ?_
        refine rget hC hK hR (ct_closing G _ _) rfl uin_X1 4 (by decide) TF_X1_35 rfl dX1_judgeSuspect_73 ?_
        refine lv_iload_n hC.x hC.b dX1_judgeSuspect_76 rfl (lv_at hl 4 rfl) ?_
        refine lv_iconst (v := 1) hC.x hC.b dX1_judgeSuspect_77 (by decide) ?_
        refine lv_isub hC.x hC.b dX1_judgeSuspect_78 ?_
        refine lv_aload_n hC.x hC.b dX1_judgeSuspect_79 rfl (lv_at hl 3 rfl) ?_
        refine rget hC hK hR (ct_clock hcq G _ _) rfl uin_X0 0 (by decide) TF_X1_62 rfl dX1_judgeSuspect_80 ?_
        refine lv_iload hC.x hC.b dX1_judgeSuspect_83 (lv_at hl 1 rfl) ?_
        have av_28 : (nI cq).toInt = ((cq : Nat) : Int) := (nI_T _ (by omega))
        refine gov (runV (As := [.int (hr - (1 : Int32)), .int (nI cq), .int x_5]) (rest := []) hC hK hR hl.1 (c6_X6_add l hG s_27 τ (hr - (1 : Int32)) (nI cq) x_5 ) (call_b hC.ts TC_X6_add TN_X6 TM_X1_175 hd_X6_add ⟨Nat.le_of_ble_eq_true rfl, Nat.le_of_ble_eq_true rfl⟩) TI_X6_add TS_X6_add (ct_steps G _ _) rfl rfl rfl (Nat.le_of_ble_eq_true rfl) dX1_judgeSuspect_85 ⟨Nat.le_of_ble_eq_true rfl, Nat.le_of_ble_eq_true rfl⟩) hS (fun s_31 t_32 H locs w_30 hR hS => ?_)
        try dsimp only [po6_X6_add] at w_30
        obtain ⟨f_33, f_34, f_35⟩ := w_30
        exact retv hC hK hR hS (⟨by exact (CG.tr (by rw [es_26]; exact CG.upc ((by rw [es_23]; exact CG.upc (CG.rf) hcq (by omega))) hcq (by omega)) f_33), by (try dsimp only); exact js_y hcq ex_6 (by omega) ⟨by assumption, by omega⟩ es_23 es_26 f_34 f_35⟩) dX1_judgeSuspect_88
  · skip
    refine bz_eq (tgt := 42) (a := 0) (b := 0) hC.x hC.b rfl rfl dX1_judgeSuspect_19 (by decide) (fun _ => ?_) (fun c_36 => absurd c_36 (by decide))
    refine lv_iconst (v := 0) hC.x hC.b dX1_judgeSuspect_42 (by decide) ?_
    refine lv_istore (lv' := [(5, .int (0 : Int32)), (4, .int x_5), (0, .ref (G.2.1 21)), (1, .ref (G.2.1 (80 + cq))), (2, .int hr), (3, .int ma)]) hC.x hC.b dX1_judgeSuspect_43 hl (by decide) rfl (fun ls hl => ?_)
    refine lv_iload hC.x hC.b dX1_judgeSuspect_45 (lv_at hl 1 rfl) ?_
    refine lv_ldc hC.x hC.b hC.ow (hC.ts _ TK_X1_127) dX1_judgeSuspect_47 ?_
    refine bi_eq (tgt := 88) (a := x_5.toInt) (b := 2000000000) hC.x hC.b rfl rfl dX1_judgeSuspect_49 (by decide) (fun c_37 => ?_) (fun c_37 => ?_)
    · skip
      exact retv hC hK hR hS (⟨by exact CG.rf, by (try dsimp only); exact js_n ex_6 (by rintro ⟨h1, h2, h3⟩; first | omega | contradiction)⟩) dX1_judgeSuspect_88
    · skip
      refine lv_iload hC.x hC.b dX1_judgeSuspect_52 (lv_at hl 0 rfl) ?_
      refine bz_eq (tgt := 88) (a := 0) (b := 0) hC.x hC.b rfl rfl dX1_judgeSuspect_54 (by decide) (fun _ => ?_) (fun c_38 => absurd c_38 (by decide))
      exact retv hC hK hR hS (⟨by exact CG.rf, by (try dsimp only); exact js_n ex_6 (by rintro ⟨h1, h2, h3⟩; first | omega | contradiction)⟩) dX1_judgeSuspect_88

abbrev po6_X1_judge (σ : SI) (τ : SL) (cq : Nat) (hr : Int32) (ma : Int32) (ti : Int32) : SI × SL → Prop := fun u => ((CG σ u.1) ∧ (JJ6 σ u.1 cq hr ma ti))
set_option maxRecDepth 100000 in
set_option maxHeartbeats 4000000 in
theorem c6_X1_judge (l : Launch) {G : Gx} {A : Nat → Prop} (hG : GOk G A) (σ : SI) (τ : SL) (cq : Nat) (hcq : cq < 24) (hr : Int32) (ma : Int32) (ti : Int32) (hhr : 0 ≤ hr.toInt ∧ hr.toInt ≤ 200) (hkq : KM6 σ cq hr) (hma : -30000 ≤ ma.toInt ∧ ma.toInt ≤ 30000) (hme : ma = xC σ 26 cq hr.toInt) : MV l G A 3 yX1_judge cX1_judge 5 none [.ref (G.2.1 21), .ref (G.2.1 (80 + cq)), .int hr, .int ma, .int ti] (σ, τ) (po6_X1_judge σ τ cq hr ma ti) := by
  refine met_of (own := RX1) (by decide +kernel) rfl [(0, .ref (G.2.1 21)), (1, .ref (G.2.1 (80 + cq))), (2, .int hr), (3, .int ma), (4, .int ti)] rfl (Nat.le_of_ble_eq_true rfl) ?_
  intro p e s m args below meth c ls hC hK hR hl
  have hS : va_S A s.heap s.heap [] := va_S.rf
  obtain ⟨hk2, hk3, hkm⟩ := id hkq
  refine lv_aload_n hC.x hC.b dX1_judge_0 rfl (lv_at hl 0 rfl) ?_
  refine rget hC hK hR (ct_closing G _ _) rfl uin_X1 3 (by decide) TF_X1_31 rfl dX1_judge_1 ?_
  refine lv_aload_n hC.x hC.b dX1_judge_4 rfl (lv_at hl 1 rfl) ?_
  refine lv_iload_n hC.x hC.b dX1_judge_5 rfl (lv_at hl 2 rfl) ?_
  refine goip (runV (As := [.ref (G.2.1 (80 + cq)), .int hr]) (rest := []) hC hK hR hl.1 (c5_X2_drifts l hG σ τ cq hcq hr (by first | omega | assumption) (by exact hkq)) (call_b hC.ts TC_X2_drifts TN_X2 TM_X1_146 hd_X2_drifts ⟨Nat.le_of_ble_eq_true rfl, Nat.le_of_ble_eq_true rfl⟩) TI_X2_drifts TS_X2_drifts (ct_fore G _ _) rfl rfl rfl (Nat.le_of_ble_eq_true rfl) dX1_judge_6 ⟨Nat.le_of_ble_eq_true rfl, Nat.le_of_ble_eq_true rfl⟩) hS (fun v_1 H locs w_2 hR hS => ?_)
  rcases w_2 with ⟨rfl, f_3⟩ | ⟨rfl, f_4⟩
  · skip
    refine bz_eq (tgt := 22) (a := 1) (b := 0) hC.x hC.b rfl rfl dX1_judge_9 (by decide) (fun c_5 => absurd c_5 (by decide)) (fun _ => ?_)
    refine lv_aload_n hC.x hC.b dX1_judge_12 rfl (lv_at hl 1 rfl) ?_
    refine lv_dup hC.x hC.b dX1_judge_13 rfl ?_
    refine rget hC hK hR (ct_clock hcq G _ _) rfl uin_X0 11 (by decide) TF_X1_150 rfl dX1_judge_14 ?_
    refine lv_iconst (v := 1) hC.x hC.b dX1_judge_17 (by decide) ?_
    refine lv_iadd hC.x hC.b dX1_judge_18 ?_
    refine rputi hC hK hG hR hS (ct_clock hcq G _ _) rfl uin_X0 tyX0 tyX0_ok nmX0 11 (by decide) TF_X1_150 rfl (Or.inl rfl) (Nat.le_of_ble_eq_true rfl) rfl (ct_clock hcq G _ _) dX1_judge_19 (fun s_7 es_6 H locs hR hS => ?_)
    have hd : Hd6 σ s_7 cq hr ma := by first | exact Or.inl ⟨by rw [hme]; assumption, es_6⟩
    refine lv_aload_n hC.x hC.b dX1_judge_22 rfl (lv_at hl 1 rfl) ?_
    refine rget hC hK hR (ct_clock hcq G _ _) rfl uin_X0 9 (by decide) TF_X1_152 rfl dX1_judge_23 ?_
    have rd_8 : (s_7 (80 + cq) 9).toInt = (σ (80 + cq) 9).toInt := congrArg Int32.toInt (show s_7 (80 + cq) 9 = σ (80 + cq) 9 from (by rw [es_6]; exact up2_n (by omega)))
    refine lv_iload_n hC.x hC.b dX1_judge_26 rfl (lv_at hl 2 rfl) ?_
    refine lv_iconst (v := 1) hC.x hC.b dX1_judge_27 (by decide) ?_
    refine lv_isub hC.x hC.b dX1_judge_28 ?_
    have pr_9 : (hr - (1 : Int32)).toInt = (hr.toInt - 1) := subI rfl rfl (by omega) (by omega)
    refine bi_ne (tgt := 42) (a := (s_7 (80 + cq) 9).toInt) (b := (hr.toInt - 1)) hC.x hC.b rfl pr_9 dX1_judge_29 (by decide) (fun c_10 => ?_) (fun c_10 => ?_)
    · skip
      refine lv_iload_n hC.x hC.b dX1_judge_42 rfl (lv_at hl 3 rfl) ?_
      refine goip (runS (As := [.int ma]) (rest := []) hC hK hR hl.1 (c_J9_abs_0f7a4 l hG s_7 τ ma ) (call_b hC.ts TC_J9_abs_0f7a4 TN_J9 TM_X1_159 hd_J9_abs_0f7a4 ⟨Nat.le_of_ble_eq_true rfl, Nat.le_of_ble_eq_true rfl⟩) TT_J9_abs_0f7a4 rfl rfl (Nat.le_of_ble_eq_true rfl) dX1_judge_43 ⟨Nat.le_of_ble_eq_true rfl, Nat.le_of_ble_eq_true rfl⟩) hS (fun v_11 H locs w_12 hR hS => ?_)
      have f_13 := w_12
      refine lv_i2l hC.x hC.b dX1_judge_46 rfl ?_
      refine lv_iload hC.x hC.b dX1_judge_47 (lv_at hl 4 rfl) ?_
      refine lv_i2l hC.x hC.b dX1_judge_49 rfl ?_
      refine lv_aload_n hC.x hC.b dX1_judge_50 rfl (lv_at hl 0 rfl) ?_
      refine rget hC hK hR (ct_closing G _ _) rfl uin_X1 3 (by decide) TF_X1_31 rfl dX1_judge_51 ?_
      refine lv_aload_n hC.x hC.b dX1_judge_54 rfl (lv_at hl 1 rfl) ?_
      refine lv_iload_n hC.x hC.b dX1_judge_55 rfl (lv_at hl 2 rfl) ?_
      refine gol (runV (As := [.ref (G.2.1 (80 + cq)), .int hr]) (rest := [.long ti.toInt64, .long v_11.toInt64]) hC hK hR hl.1 (c5_X2_usuallyMissedBy l hG s_7 τ cq hcq hr (by first | omega | assumption) (by exact KM6.hd hkq hcq hd)) (call_b hC.ts TC_X2_usuallyMissedBy TN_X2 TM_X1_162 hd_X2_usuallyMissedBy ⟨Nat.le_of_ble_eq_true rfl, Nat.le_of_ble_eq_true rfl⟩) TI_X2_usuallyMissedBy TS_X2_usuallyMissedBy (ct_fore G _ _) rfl rfl rfl (Nat.le_of_ble_eq_true rfl) dX1_judge_56 ⟨Nat.le_of_ble_eq_true rfl, Nat.le_of_ble_eq_true rfl⟩) hS (fun v_14 s_16 t_17 H locs w_15 hR hS => ?_)
      try dsimp only [po5_X2_usuallyMissedBy] at w_15
      obtain ⟨rfl, f_18⟩ := w_15
      refine lv_lconst (v := 1) hC.x hC.b dX1_judge_59 (by decide) ?_
      refine lv_ladd hC.x hC.b dX1_judge_60 ?_
      refine lv_lmul hC.x hC.b dX1_judge_61 ?_
      refine bl_le (tgt := 71) (a := v_11.toInt) (b := (ti.toInt64 * ((UM6 (xC s_7 26 cq) (s_7 (80 + cq) 3).toInt hr.toInt) + (1 : Int64))).toInt) hC.x hC.b (i2lI rfl) rfl dX1_judge_62 dX1_judge_63 (by decide) (fun c_19 => ?_) (fun c_19 => ?_)
      · skip
        exact retv hC hK hR hS (⟨by exact (CG.tr (by rw [es_6]; exact CG.upc (CG.rf) hcq (by omega)) (CG.fore f_18)), by (try dsimp only); exact jj_n hcq hd (by omega) f_18 hma (by assumption) (by omega)⟩) dX1_judge_71
      · skip
        refine lv_aload_n hC.x hC.b dX1_judge_66 rfl (lv_at hl 1 rfl) ?_
        refine lv_iload_n hC.x hC.b dX1_judge_67 rfl (lv_at hl 2 rfl) ?_
        refine rputi hC hK hG hR hS (ct_clock hcq G _ _) rfl uin_X0 tyX0 tyX0_ok nmX0 9 (by decide) TF_X1_152 rfl (Or.inl rfl) (Nat.le_of_ble_eq_true rfl) rfl (ct_clock hcq G _ _) dX1_judge_68 (fun s_21 es_20 H locs hR hS => ?_)
        exact retv hC hK hR hS (⟨by exact (by rw [es_20]; exact CG.upc ((CG.tr (by rw [es_6]; exact CG.upc (CG.rf) hcq (by omega)) (CG.fore f_18))) hcq (by omega)), by (try dsimp only); exact jj_l hcq hd (by omega) f_18 hma (by assumption) (by omega) es_20⟩) dX1_judge_71
    · skip
      refine lv_aload_n hC.x hC.b dX1_judge_32 rfl (lv_at hl 0 rfl) ?_
      refine lv_aload_n hC.x hC.b dX1_judge_33 rfl (lv_at hl 1 rfl) ?_
      refine lv_iload_n hC.x hC.b dX1_judge_34 rfl (lv_at hl 2 rfl) ?_
      refine lv_iload_n hC.x hC.b dX1_judge_35 rfl (lv_at hl 3 rfl) ?_
      refine gov (runV (As := [.ref (G.2.1 (80 + cq)), .int hr, .int ma]) (rest := []) hC hK hR hl.1 (c6_X1_judgeSuspect l hG s_7 τ cq hcq hr ma (by first | omega | assumption) (by exact KM6.hd hkq hcq hd) (by first | assumption | omega)) (call_b hC.ts TC_X1_judgeSuspect TN_X1 TM_X1_155 hd_X1_judgeSuspect ⟨Nat.le_of_ble_eq_true rfl, Nat.le_of_ble_eq_true rfl⟩) TI_X1_judgeSuspect TS_X1_judgeSuspect (ct_closing G _ _) rfl rfl rfl (Nat.le_of_ble_eq_true rfl) dX1_judge_36 ⟨Nat.le_of_ble_eq_true rfl, Nat.le_of_ble_eq_true rfl⟩) hS (fun s_24 t_25 H locs w_23 hR hS => ?_)
      try dsimp only [po6_X1_judgeSuspect] at w_23
      obtain ⟨f_26, f_27⟩ := w_23
      refine lv_goto (tgt := 71) hC.x hC.b dX1_judge_39 (by decide) ?_
      exact retv hC hK hR hS (⟨by exact (CG.tr (by rw [es_6]; exact CG.upc (CG.rf) hcq (by omega)) f_26), by (try dsimp only); exact jj_s hcq hd (by omega) f_27⟩) dX1_judge_71
  · skip
    refine bz_eq (tgt := 22) (a := 0) (b := 0) hC.x hC.b rfl rfl dX1_judge_9 (by decide) (fun _ => ?_) (fun c_28 => absurd c_28 (by decide))
    have hd : Hd6 σ σ cq hr ma := by first | exact Or.inr ⟨by rw [hme]; assumption, rfl⟩
    refine lv_aload_n hC.x hC.b dX1_judge_22 rfl (lv_at hl 1 rfl) ?_
    refine rget hC hK hR (ct_clock hcq G _ _) rfl uin_X0 9 (by decide) TF_X1_152 rfl dX1_judge_23 ?_
    refine lv_iload_n hC.x hC.b dX1_judge_26 rfl (lv_at hl 2 rfl) ?_
    refine lv_iconst (v := 1) hC.x hC.b dX1_judge_27 (by decide) ?_
    refine lv_isub hC.x hC.b dX1_judge_28 ?_
    have pr_29 : (hr - (1 : Int32)).toInt = (hr.toInt - 1) := subI rfl rfl (by omega) (by omega)
    refine bi_ne (tgt := 42) (a := (σ (80 + cq) 9).toInt) (b := (hr.toInt - 1)) hC.x hC.b rfl pr_29 dX1_judge_29 (by decide) (fun c_30 => ?_) (fun c_30 => ?_)
    · skip
      refine lv_iload_n hC.x hC.b dX1_judge_42 rfl (lv_at hl 3 rfl) ?_
      refine goip (runS (As := [.int ma]) (rest := []) hC hK hR hl.1 (c_J9_abs_0f7a4 l hG σ τ ma ) (call_b hC.ts TC_J9_abs_0f7a4 TN_J9 TM_X1_159 hd_J9_abs_0f7a4 ⟨Nat.le_of_ble_eq_true rfl, Nat.le_of_ble_eq_true rfl⟩) TT_J9_abs_0f7a4 rfl rfl (Nat.le_of_ble_eq_true rfl) dX1_judge_43 ⟨Nat.le_of_ble_eq_true rfl, Nat.le_of_ble_eq_true rfl⟩) hS (fun v_31 H locs w_32 hR hS => ?_)
      have f_33 := w_32
      refine lv_i2l hC.x hC.b dX1_judge_46 rfl ?_
      refine lv_iload hC.x hC.b dX1_judge_47 (lv_at hl 4 rfl) ?_
      refine lv_i2l hC.x hC.b dX1_judge_49 rfl ?_
      refine lv_aload_n hC.x hC.b dX1_judge_50 rfl (lv_at hl 0 rfl) ?_
      refine rget hC hK hR (ct_closing G _ _) rfl uin_X1 3 (by decide) TF_X1_31 rfl dX1_judge_51 ?_
      refine lv_aload_n hC.x hC.b dX1_judge_54 rfl (lv_at hl 1 rfl) ?_
      refine lv_iload_n hC.x hC.b dX1_judge_55 rfl (lv_at hl 2 rfl) ?_
      refine gol (runV (As := [.ref (G.2.1 (80 + cq)), .int hr]) (rest := [.long ti.toInt64, .long v_31.toInt64]) hC hK hR hl.1 (c5_X2_usuallyMissedBy l hG σ τ cq hcq hr (by first | omega | assumption) (by exact KM6.hd hkq hcq hd)) (call_b hC.ts TC_X2_usuallyMissedBy TN_X2 TM_X1_162 hd_X2_usuallyMissedBy ⟨Nat.le_of_ble_eq_true rfl, Nat.le_of_ble_eq_true rfl⟩) TI_X2_usuallyMissedBy TS_X2_usuallyMissedBy (ct_fore G _ _) rfl rfl rfl (Nat.le_of_ble_eq_true rfl) dX1_judge_56 ⟨Nat.le_of_ble_eq_true rfl, Nat.le_of_ble_eq_true rfl⟩) hS (fun v_34 s_36 t_37 H locs w_35 hR hS => ?_)
      try dsimp only [po5_X2_usuallyMissedBy] at w_35
      obtain ⟨rfl, f_38⟩ := w_35
      refine lv_lconst (v := 1) hC.x hC.b dX1_judge_59 (by decide) ?_
      refine lv_ladd hC.x hC.b dX1_judge_60 ?_
      refine lv_lmul hC.x hC.b dX1_judge_61 ?_
      refine bl_le (tgt := 71) (a := v_31.toInt) (b := (ti.toInt64 * ((UM6 (xC σ 26 cq) (σ (80 + cq) 3).toInt hr.toInt) + (1 : Int64))).toInt) hC.x hC.b (i2lI rfl) rfl dX1_judge_62 dX1_judge_63 (by decide) (fun c_39 => ?_) (fun c_39 => ?_)
      · skip
        exact retv hC hK hR hS (⟨by exact (CG.tr CG.rf (CG.fore f_38)), by (try dsimp only); exact jj_n hcq hd (by omega) f_38 hma (by assumption) (by omega)⟩) dX1_judge_71
      · skip
        refine lv_aload_n hC.x hC.b dX1_judge_66 rfl (lv_at hl 1 rfl) ?_
        refine lv_iload_n hC.x hC.b dX1_judge_67 rfl (lv_at hl 2 rfl) ?_
        refine rputi hC hK hG hR hS (ct_clock hcq G _ _) rfl uin_X0 tyX0 tyX0_ok nmX0 9 (by decide) TF_X1_152 rfl (Or.inl rfl) (Nat.le_of_ble_eq_true rfl) rfl (ct_clock hcq G _ _) dX1_judge_68 (fun s_41 es_40 H locs hR hS => ?_)
        exact retv hC hK hR hS (⟨by exact (by rw [es_40]; exact CG.upc ((CG.tr CG.rf (CG.fore f_38))) hcq (by omega)), by (try dsimp only); exact jj_l hcq hd (by omega) f_38 hma (by assumption) (by omega) es_40⟩) dX1_judge_71
    · skip
      refine lv_aload_n hC.x hC.b dX1_judge_32 rfl (lv_at hl 0 rfl) ?_
      refine lv_aload_n hC.x hC.b dX1_judge_33 rfl (lv_at hl 1 rfl) ?_
      refine lv_iload_n hC.x hC.b dX1_judge_34 rfl (lv_at hl 2 rfl) ?_
      refine lv_iload_n hC.x hC.b dX1_judge_35 rfl (lv_at hl 3 rfl) ?_
      refine gov (runV (As := [.ref (G.2.1 (80 + cq)), .int hr, .int ma]) (rest := []) hC hK hR hl.1 (c6_X1_judgeSuspect l hG σ τ cq hcq hr ma (by first | omega | assumption) (by exact KM6.hd hkq hcq hd) (by first | assumption | omega)) (call_b hC.ts TC_X1_judgeSuspect TN_X1 TM_X1_155 hd_X1_judgeSuspect ⟨Nat.le_of_ble_eq_true rfl, Nat.le_of_ble_eq_true rfl⟩) TI_X1_judgeSuspect TS_X1_judgeSuspect (ct_closing G _ _) rfl rfl rfl (Nat.le_of_ble_eq_true rfl) dX1_judge_36 ⟨Nat.le_of_ble_eq_true rfl, Nat.le_of_ble_eq_true rfl⟩) hS (fun s_44 t_45 H locs w_43 hR hS => ?_)
      try dsimp only [po6_X1_judgeSuspect] at w_43
      obtain ⟨f_46, f_47⟩ := w_43
      refine lv_goto (tgt := 71) hC.x hC.b dX1_judge_39 (by decide) ?_
      exact retv hC hK hR hS (⟨by exact (CG.tr CG.rf f_46), by (try dsimp only); exact jj_s hcq hd (by omega) f_47⟩) dX1_judge_71

abbrev po6_X1_judgeAll (σ : SI) (τ : SL) (hr : Int32) (ti : Int32) : SI × SL → Prop := fun u => ((CG σ u.1) ∧ (JA6 σ u.1 hr ti 24))
set_option maxRecDepth 100000 in
set_option maxHeartbeats 4000000 in
theorem c6_X1_judgeAll (l : Launch) {G : Gx} {A : Nat → Prop} (hG : GOk G A) (σ : SI) (τ : SL) (hr : Int32) (ti : Int32) (hh2 : 0 ≤ hr.toInt ∧ hr.toInt < 200) (hk7 : HJ6 σ hr) : MV l G A 4 yX1_judgeAll cX1_judgeAll 6 none [.ref (G.2.1 21), .int hr, .int ti] (σ, τ) (po6_X1_judgeAll σ τ hr ti) := by
  refine met_of (own := RX1) (by decide +kernel) rfl [(0, .ref (G.2.1 21)), (1, .int hr), (2, .int ti)] rfl (Nat.le_of_ble_eq_true rfl) ?_
  intro p e s m args below meth c ls hC hK hR hl
  have hS : va_S A s.heap s.heap [] := va_S.rf
  refine lv_iconst (v := 0) hC.x hC.b dX1_judgeAll_0 (by decide) ?_
  refine lv_istore_n (lv' := [(3, .int (0 : Int32)), (0, .ref (G.2.1 21)), (1, .int hr), (2, .int ti)]) hC.x hC.b dX1_judgeAll_1 rfl hl (by decide) rfl (fun ls hl => ?_)
  have L_2 : ∀ (F : Nat) (n : Nat) (s1 : SI) (t1 : SL), (24 - n) < F → (n ≤ 24) → (JA6 σ s1 hr ti n) → (CG σ s1) → ∀ (H : Heap) (locs : List Loc) (ls : Array Slot), RepH G s1 t1 H → va_S A s.heap H locs → lv_has ls 6 [(0, .ref (G.2.1 21)), (1, .int hr), (2, .int ti), (3, .int (nI n))] → W p l e (rmD 4) s m args below meth c H locs 0 0 (MQ below (va_Qv (po6_X1_judgeAll σ τ hr ti) (BU G) A) args s 0 0 A) (F0 m 2 ls []) := by
    intro F
    induction F with
    | zero => intro n s1 t1 hm; exact absurd hm (Nat.not_lt_zero _)
    | succ F ih_2 =>
      intro n s1 t1 hm_2 hi0_2 hi1_2 hi2_2 H locs ls hR hS hl
      have hnI := nI_T n (by omega)
      refine lv_iload_n hC.x hC.b dX1_judgeAll_2 rfl (lv_at hl 3 rfl) ?_
      refine lv_bipush (v := 24) hC.x hC.b dX1_judgeAll_3 (by decide) ?_
      refine bi_ge (tgt := 66) (a := (n : Int)) (b := 24) hC.x hC.b (nI_T n (by omega)) rfl dX1_judgeAll_5 (by decide) (fun c_1 => ?_) (fun c_1 => ?_)
      · skip
        exact retv hC hK hR hS (⟨by exact hi2_2, by (try dsimp only); (have e9 : n = 24 := by omega); exact e9 ▸ hi1_2⟩) dX1_judgeAll_66
      · skip
        refine lv_aload_n hC.x hC.b dX1_judgeAll_8 rfl (lv_at hl 0 rfl) ?_
        refine rget hC hK hR (ct_closing G _ _) rfl uin_X1 0 (by decide) TF_X1_19 rfl dX1_judgeAll_9 ?_
        refine lv_iload_n hC.x hC.b dX1_judgeAll_12 rfl (lv_at hl 3 rfl) ?_
        have av_2 : (nI n).toInt = (n : Int) := (nI_T n (by omega))
        refine goqp (runV (As := [.int (nI n)]) (rest := []) hC hK hR hl.1 (c_X5_clockAt l hG s1 t1 (nI n) n (by first | rfl | (rw [show (nI n).toInt = (n : Int) from (nI_T n (by omega))]; done) | (rw [show (nI n).toInt = (n : Int) from (nI_T n (by omega))]; exact (Int.toNat_natCast _))) ) (call_b hC.ts TC_X5_clockAt TN_X5 TM_X1_73 hd_X5_clockAt ⟨Nat.le_of_ble_eq_true rfl, Nat.le_of_ble_eq_true rfl⟩) TI_X5_clockAt TS_X5_clockAt (ct_shelf G _ _) rfl rfl rfl (Nat.le_of_ble_eq_true rfl) dX1_judgeAll_13 ⟨Nat.le_of_ble_eq_true rfl, Nat.le_of_ble_eq_true rfl⟩) hS (fun v_3 H locs w_4 hR hS => ?_)
        rcases w_4 with ⟨rfl, f_5⟩ | ⟨rfl, f_6, f_7, f_8, f_9⟩
        · skip
          refine lv_astoreN (lv' := [(4, .null), (0, .ref (G.2.1 21)), (1, .int hr), (2, .int ti), (3, .int (nI n))]) hC.x hC.b dX1_judgeAll_16 hl (by decide) rfl (fun ls hl => ?_)
          refine lv_aload_n hC.x hC.b dX1_judgeAll_18 rfl (lv_at hl 1 rfl) ?_
          refine rget hC hK hR (ct_closing G _ _) rfl uin_X1 2 (by decide) TF_X1_27 rfl dX1_judgeAll_19 ?_
          refine lv_iconst (v := 2) hC.x hC.b dX1_judgeAll_22 (by decide) ?_
          refine lv_iload_n hC.x hC.b dX1_judgeAll_23 rfl (lv_at hl 2 rfl) ?_
          refine lv_iload_n hC.x hC.b dX1_judgeAll_24 rfl (lv_at hl 4 rfl) ?_
          have av_10 : (2 : Int32).toInt = 2 := by decide
          have av_11 : (nI n).toInt = (n : Int) := (nI_T n (by omega))
          refine goip (runV (As := [.int (2 : Int32), .int hr, .int (nI n)]) (rest := []) hC hK hR hl.1 (c5_X7_ofClock l hG s1 t1 (2 : Int32) hr (nI n) ) (call_b hC.ts TC_X7_ofClock TN_X7 TM_X1_123 hd_X7_ofClock ⟨Nat.le_of_ble_eq_true rfl, Nat.le_of_ble_eq_true rfl⟩) TI_X7_ofClock TS_X7_ofClock (ct_told G _ _) rfl rfl rfl (Nat.le_of_ble_eq_true rfl) dX1_judgeAll_25 ⟨Nat.le_of_ble_eq_true rfl, Nat.le_of_ble_eq_true rfl⟩) hS (fun v_12 H locs w_13 hR hS => ?_)
          subst w_13
          rw [show (ofC s1 (2 : Int32) hr (nI n)) = (s1 26 (24 * hr.toInt.toNat + n)) from ofC_v (w := 2) (by decide) (by omega) (by omega) hh2]
          refine lv_topi (fun x_14 ex_15 => ?_)
          refine lv_istore (lv' := [(5, .int x_14), (4, .null), (0, .ref (G.2.1 21)), (1, .int hr), (2, .int ti), (3, .int (nI n))]) hC.x hC.b dX1_judgeAll_28 hl (by decide) rfl (fun ls hl => ?_)
          have e2n : s1 2 n = σ 2 n := congrFun (hi1_2.1 2 (by omega) (by omega) (by omega)) n
          have e80n : s1 (80 + n) = σ (80 + n) := hi1_2.2.2.1 n (Nat.le_refl n) (by omega)
          have e26n : s1 26 = σ 26 := hi1_2.1 26 (by omega) (by omega) (by omega)
          have hjd : Jd6 σ hr n ↔ ((0 ≤ (s1 2 n).toInt ∧ (s1 2 n).toInt ≤ 3) ∧ (s1 (80 + n) 7).toInt = 0 ∧ x_14.toInt ≠ 2000000000) := by rw [e2n, e80n, ex_15, e26n]
          have hkn : (0 ≤ (s1 2 n).toInt ∧ (s1 2 n).toInt ≤ 3) → KM6 s1 n hr := fun z9 => KM6.ex (hk7 n (by omega) (by rw [← e2n]; exact z9)) (by rw [e80n]) (by rw [e80n]) e26n
          have hmn : KM6 s1 n hr → x_14 = xC s1 26 n hr.toInt := fun z9 => by rw [ex_15]; exact (xC_v (by have := z9.2.1; omega) hh2).symm
          refine lv_aloadN hC.x hC.b dX1_judgeAll_30 (lv_at hl 1 rfl) ?_
          refine lv_ifnullN (tgt := 60) hC.x hC.b dX1_judgeAll_32 (by decide) ?_
          refine lv_iinc (v := nI (n + 1)) (lv' := [(3, .int (nI (n + 1))), (5, .int x_14), (4, .null), (0, .ref (G.2.1 21)), (1, .int hr), (2, .int ti)]) hC.x hC.b dX1_judgeAll_60 hl (k := 5) rfl (nI_succ _).symm (by decide) rfl (fun ls hl => ?_)
          refine lv_goto (tgt := 2) hC.x hC.b dX1_judgeAll_63 (by decide) ?_
          exact ih_2 (n + 1) s1 t1 (by omega) (by first | omega | assumption) (by exact JA6.sk hi1_2 (by omega) (fun q9 => by have := hjd.mp q9; omega)) hi2_2 _ _ _ hR hS (lv_sub hl [3, 4, 5, 0] rfl)
        · skip
          have hq_16 : n < 24 := by omega
          refine lv_astore (lv' := [(4, .ref (G.2.1 (80 + n))), (0, .ref (G.2.1 21)), (1, .int hr), (2, .int ti), (3, .int (nI n))]) hC.x hC.b dX1_judgeAll_16 hl (by decide) rfl (fun ls hl => ?_)
          refine lv_aload_n hC.x hC.b dX1_judgeAll_18 rfl (lv_at hl 1 rfl) ?_
          refine rget hC hK hR (ct_closing G _ _) rfl uin_X1 2 (by decide) TF_X1_27 rfl dX1_judgeAll_19 ?_
          refine lv_iconst (v := 2) hC.x hC.b dX1_judgeAll_22 (by decide) ?_
          refine lv_iload_n hC.x hC.b dX1_judgeAll_23 rfl (lv_at hl 2 rfl) ?_
          refine lv_iload_n hC.x hC.b dX1_judgeAll_24 rfl (lv_at hl 4 rfl) ?_
          have av_17 : (2 : Int32).toInt = 2 := by decide
          have av_18 : (nI n).toInt = (n : Int) := (nI_T n (by omega))
          refine goip (runV (As := [.int (2 : Int32), .int hr, .int (nI n)]) (rest := []) hC hK hR hl.1 (c5_X7_ofClock l hG s1 t1 (2 : Int32) hr (nI n) ) (call_b hC.ts TC_X7_ofClock TN_X7 TM_X1_123 hd_X7_ofClock ⟨Nat.le_of_ble_eq_true rfl, Nat.le_of_ble_eq_true rfl⟩) TI_X7_ofClock TS_X7_ofClock (ct_told G _ _) rfl rfl rfl (Nat.le_of_ble_eq_true rfl) dX1_judgeAll_25 ⟨Nat.le_of_ble_eq_true rfl, Nat.le_of_ble_eq_true rfl⟩) hS (fun v_19 H locs w_20 hR hS => ?_)
          subst w_20
          rw [show (ofC s1 (2 : Int32) hr (nI n)) = (s1 26 (24 * hr.toInt.toNat + n)) from ofC_v (w := 2) (by decide) (by omega) (by omega) hh2]
          refine lv_topi (fun x_21 ex_22 => ?_)
          refine lv_istore (lv' := [(5, .int x_21), (4, .ref (G.2.1 (80 + n))), (0, .ref (G.2.1 21)), (1, .int hr), (2, .int ti), (3, .int (nI n))]) hC.x hC.b dX1_judgeAll_28 hl (by decide) rfl (fun ls hl => ?_)
          have e2n : s1 2 n = σ 2 n := congrFun (hi1_2.1 2 (by omega) (by omega) (by omega)) n
          have e80n : s1 (80 + n) = σ (80 + n) := hi1_2.2.2.1 n (Nat.le_refl n) (by omega)
          have e26n : s1 26 = σ 26 := hi1_2.1 26 (by omega) (by omega) (by omega)
          have hjd : Jd6 σ hr n ↔ ((0 ≤ (s1 2 n).toInt ∧ (s1 2 n).toInt ≤ 3) ∧ (s1 (80 + n) 7).toInt = 0 ∧ x_21.toInt ≠ 2000000000) := by rw [e2n, e80n, ex_22, e26n]
          have hkn : (0 ≤ (s1 2 n).toInt ∧ (s1 2 n).toInt ≤ 3) → KM6 s1 n hr := fun z9 => KM6.ex (hk7 n (by omega) (by rw [← e2n]; exact z9)) (by rw [e80n]) (by rw [e80n]) e26n
          have hmn : KM6 s1 n hr → x_21 = xC s1 26 n hr.toInt := fun z9 => by rw [ex_22]; exact (xC_v (by have := z9.2.1; omega) hh2).symm
          refine lv_aload hC.x hC.b dX1_judgeAll_30 (lv_at hl 1 rfl) ?_
          refine lv_ifnull hC.x hC.b dX1_judgeAll_32 ?_
          refine lv_aload hC.x hC.b dX1_judgeAll_35 (lv_at hl 1 rfl) ?_
          refine rget hC hK hR (ct_clock hq_16 G _ _) rfl uin_X0 7 (by decide) TF_X1_138 rfl dX1_judgeAll_37 ?_
          refine bz_ne (tgt := 60) (a := (s1 (80 + n) 7).toInt) (b := 0) hC.x hC.b rfl rfl dX1_judgeAll_40 (by decide) (fun c_23 => ?_) (fun c_23 => ?_)
          · skip
            refine lv_iinc (v := nI (n + 1)) (lv' := [(3, .int (nI (n + 1))), (5, .int x_21), (4, .ref (G.2.1 (80 + n))), (0, .ref (G.2.1 21)), (1, .int hr), (2, .int ti)]) hC.x hC.b dX1_judgeAll_60 hl (k := 5) rfl (nI_succ _).symm (by decide) rfl (fun ls hl => ?_)
            refine lv_goto (tgt := 2) hC.x hC.b dX1_judgeAll_63 (by decide) ?_
            exact ih_2 (n + 1) s1 t1 (by omega) (by first | omega | assumption) (by exact JA6.sk hi1_2 (by omega) (fun q9 => by have := hjd.mp q9; omega)) hi2_2 _ _ _ hR hS (lv_sub hl [3, 4, 5, 0] rfl)
          · skip
            refine lv_iload hC.x hC.b dX1_judgeAll_43 (lv_at hl 0 rfl) ?_
            refine lv_ldc hC.x hC.b hC.ow (hC.ts _ TK_X1_127) dX1_judgeAll_45 ?_
            refine bi_eq (tgt := 60) (a := x_21.toInt) (b := 2000000000) hC.x hC.b rfl rfl dX1_judgeAll_47 (by decide) (fun c_24 => ?_) (fun c_24 => ?_)
            · skip
              refine lv_iinc (v := nI (n + 1)) (lv' := [(3, .int (nI (n + 1))), (5, .int x_21), (4, .ref (G.2.1 (80 + n))), (0, .ref (G.2.1 21)), (1, .int hr), (2, .int ti)]) hC.x hC.b dX1_judgeAll_60 hl (k := 5) rfl (nI_succ _).symm (by decide) rfl (fun ls hl => ?_)
              refine lv_goto (tgt := 2) hC.x hC.b dX1_judgeAll_63 (by decide) ?_
              exact ih_2 (n + 1) s1 t1 (by omega) (by first | omega | assumption) (by exact JA6.sk hi1_2 (by omega) (fun q9 => by have := hjd.mp q9; omega)) hi2_2 _ _ _ hR hS (lv_sub hl [3, 4, 5, 0] rfl)
            · skip
              refine lv_aload_n hC.x hC.b dX1_judgeAll_50 rfl (lv_at hl 2 rfl) ?_
              refine lv_aload hC.x hC.b dX1_judgeAll_51 (lv_at hl 1 rfl) ?_
              refine lv_iload_n hC.x hC.b dX1_judgeAll_53 rfl (lv_at hl 3 rfl) ?_
              refine lv_iload hC.x hC.b dX1_judgeAll_54 (lv_at hl 0 rfl) ?_
              refine lv_iload_n hC.x hC.b dX1_judgeAll_56 rfl (lv_at hl 4 rfl) ?_
              refine gov (runV (As := [.ref (G.2.1 (80 + n)), .int hr, .int x_21, .int ti]) (rest := []) hC hK hR hl.1 (c6_X1_judge l hG s1 t1 n hq_16 hr x_21 ti (by first | omega | assumption) (by exact hkn ⟨by omega, by omega⟩) (by have z8 := (hkn ⟨by omega, by omega⟩).2.2 hr.toInt; rw [← hmn (hkn ⟨by omega, by omega⟩)] at z8; omega) (by exact hmn (hkn ⟨by omega, by omega⟩))) (call_b hC.ts TC_X1_judge TN_X1 TM_X1_142 hd_X1_judge ⟨Nat.le_of_ble_eq_true rfl, Nat.le_of_ble_eq_true rfl⟩) TI_X1_judge TS_X1_judge (ct_closing G _ _) rfl rfl rfl (Nat.le_of_ble_eq_true rfl) dX1_judgeAll_57 ⟨Nat.le_of_ble_eq_true rfl, Nat.le_of_ble_eq_true rfl⟩) hS (fun s_27 t_28 H locs w_26 hR hS => ?_)
              try dsimp only [po6_X1_judge] at w_26
              obtain ⟨f_29, f_30⟩ := w_26
              refine lv_iinc (v := nI (n + 1)) (lv' := [(3, .int (nI (n + 1))), (5, .int x_21), (4, .ref (G.2.1 (80 + n))), (0, .ref (G.2.1 21)), (1, .int hr), (2, .int ti)]) hC.x hC.b dX1_judgeAll_60 hl (k := 5) rfl (nI_succ _).symm (by decide) rfl (fun ls hl => ?_)
              refine lv_goto (tgt := 2) hC.x hC.b dX1_judgeAll_63 (by decide) ?_
              exact ih_2 (n + 1) s_27 t_28 (by omega) (by first | omega | assumption) (by exact JA6.go hi1_2 (by omega) (hjd.mpr ⟨by omega, by omega, by omega⟩) (by rw [ex_22, e26n]) f_30) (CG.tr hi2_2 f_29) _ _ _ hR hS (lv_sub hl [3, 4, 5, 0] rfl)
  exact L_2 _ 0 σ τ (Nat.lt_succ_self _) (by first | omega | assumption) (by exact JA6.st) CG.rf _ _ _ hR hS (lv_sub hl [1, 2, 3, 0] rfl)

abbrev po6_X1_closeHour (σ : SI) (τ : SL) (hr : Int32) (pa : Int32) (ti : Int32) : Int32 → SI × SL → Prop := fun v u => ((CF σ u.1) ∧ (CHV σ hr v) ∧ (CH6 σ u.1 hr pa ti v))
set_option maxRecDepth 100000 in
set_option maxHeartbeats 4000000 in
theorem c6_X1_closeHour (l : Launch) {G : Gx} {A : Nat → Prop} (hG : GOk G A) (σ : SI) (τ : SL) (hr : Int32) (pa : Int32) (ti : Int32) (hh2 : 0 ≤ hr.toInt ∧ hr.toInt < 200) (hk6 : HK6 σ hr) : MI l G A 5 yX1_closeHour cX1_closeHour 5 (some .int) [.ref (G.2.1 21), .int hr, .int pa, .int ti] (σ, τ) (po6_X1_closeHour σ τ hr pa ti) := by
  refine met_of (own := RX1) (by decide +kernel) rfl [(0, .ref (G.2.1 21)), (1, .int hr), (2, .int pa), (3, .int ti)] rfl (Nat.le_of_ble_eq_true rfl) ?_
  intro p e s m args below meth c ls hC hK hR hl
  have hS : va_S A s.heap s.heap [] := va_S.rf
  refine lv_aload_n hC.x hC.b dX1_closeHour_0 rfl (lv_at hl 0 rfl) ?_
  refine lv_iconst (v := 0) hC.x hC.b dX1_closeHour_1 (by decide) ?_
  refine rputi hC hK hG hR hS (ct_closing G _ _) rfl uin_X1 tyX1 tyX1_ok nmX1 6 (by decide) TF_X1_15 rfl (Or.inl rfl) (Nat.le_of_ble_eq_true rfl) rfl (ct_closing G _ _) dX1_closeHour_2 (fun s_2 es_1 H locs hR hS => ?_)
  refine lv_aload_n hC.x hC.b dX1_closeHour_5 rfl (lv_at hl 0 rfl) ?_
  refine goqp (runV (As := []) (rest := []) hC hK hR hl.1 (c4_X1_leastTaken l hG s_2 τ  ) (call_b hC.ts TC_X1_leastTaken TN_X1 TM_X1_39 hd_X1_leastTaken ⟨Nat.le_of_ble_eq_true rfl, Nat.le_of_ble_eq_true rfl⟩) TI_X1_leastTaken TS_X1_leastTaken (ct_closing G _ _) rfl rfl rfl (Nat.le_of_ble_eq_true rfl) dX1_closeHour_6 ⟨Nat.le_of_ble_eq_true rfl, Nat.le_of_ble_eq_true rfl⟩) hS (fun v_3 H locs w_4 hR hS => ?_)
  rcases w_4 with ⟨rfl, f_5⟩ | ⟨j_6, hq_7, rfl, f_8⟩
  · skip
    refine lv_astoreN (lv' := [(4, .null), (0, .ref (G.2.1 21)), (1, .int hr), (2, .int pa), (3, .int ti)]) hC.x hC.b dX1_closeHour_9 hl (by decide) rfl (fun ls hl => ?_)
    refine lv_aloadN hC.x hC.b dX1_closeHour_11 (lv_at hl 0 rfl) ?_
    refine lv_ifnullN (tgt := 82) hC.x hC.b dX1_closeHour_13 (by decide) ?_
    refine lv_aload_n hC.x hC.b dX1_closeHour_82 rfl (lv_at hl 1 rfl) ?_
    refine rget hC hK hR (ct_closing G _ _) rfl uin_X1 6 (by decide) TF_X1_15 rfl dX1_closeHour_83 ?_
    have rd_9 : (s_2 21 6).toInt = 0 := (congrArg Int32.toInt (show s_2 21 6 = (0 : Int32) from (by rw [es_1]; exact up2_s))).trans (by decide)
    exact reti hC hK hR hS (⟨by exact (by rw [es_1]; exact CF.up (CF.rf) (by omega)), by exact CHV.z (by assumption) (by assumption), by (try dsimp only); exact ch_z es_1 (by assumption)⟩) dX1_closeHour_86
  · skip
    refine lv_astore (lv' := [(4, .ref (G.2.1 (80 + j_6))), (0, .ref (G.2.1 21)), (1, .int hr), (2, .int pa), (3, .int ti)]) hC.x hC.b dX1_closeHour_9 hl (by decide) rfl (fun ls hl => ?_)
    refine lv_aload hC.x hC.b dX1_closeHour_11 (lv_at hl 0 rfl) ?_
    refine lv_ifnull hC.x hC.b dX1_closeHour_13 ?_
    refine lv_aload_n hC.x hC.b dX1_closeHour_16 rfl (lv_at hl 1 rfl) ?_
    refine lv_aload hC.x hC.b dX1_closeHour_17 (lv_at hl 0 rfl) ?_
    refine lv_iload_n hC.x hC.b dX1_closeHour_19 rfl (lv_at hl 2 rfl) ?_
    refine gov (runV (As := [.ref (G.2.1 (80 + j_6)), .int hr]) (rest := []) hC hK hR hl.1 (c6_X1_hold l hG s_2 τ j_6 hq_7 hr (by omega) (by exact HK6.u21 hk6 es_1)) (call_b hC.ts TC_X1_hold TN_X1 TM_X1_43 hd_X1_hold ⟨Nat.le_of_ble_eq_true rfl, Nat.le_of_ble_eq_true rfl⟩) TI_X1_hold TS_X1_hold (ct_closing G _ _) rfl rfl rfl (Nat.le_of_ble_eq_true rfl) dX1_closeHour_20 ⟨Nat.le_of_ble_eq_true rfl, Nat.le_of_ble_eq_true rfl⟩) hS (fun s_12 t_13 H locs w_11 hR hS => ?_)
    try dsimp only [po6_X1_hold] at w_11
    obtain ⟨f_14, f_15, f_16⟩ := w_11
    refine lv_aload_n hC.x hC.b dX1_closeHour_23 rfl (lv_at hl 1 rfl) ?_
    refine lv_iload_n hC.x hC.b dX1_closeHour_24 rfl (lv_at hl 2 rfl) ?_
    refine lv_iload_n hC.x hC.b dX1_closeHour_25 rfl (lv_at hl 3 rfl) ?_
    refine gov (runV (As := [.int hr, .int pa]) (rest := []) hC hK hR hl.1 (c6_X1_weigh l hG s_12 t_13 hr pa (by omega)) (call_b hC.ts TC_X1_weigh TN_X1 TM_X1_47 hd_X1_weigh ⟨Nat.le_of_ble_eq_true rfl, Nat.le_of_ble_eq_true rfl⟩) TI_X1_weigh TS_X1_weigh (ct_closing G _ _) rfl rfl rfl (Nat.le_of_ble_eq_true rfl) dX1_closeHour_26 ⟨Nat.le_of_ble_eq_true rfl, Nat.le_of_ble_eq_true rfl⟩) hS (fun s_19 t_20 H locs w_18 hR hS => ?_)
    try dsimp only [po6_X1_weigh] at w_18
    obtain ⟨f_21, f_22⟩ := w_18
    refine lv_aload_n hC.x hC.b dX1_closeHour_29 rfl (lv_at hl 1 rfl) ?_
    refine lv_iload_n hC.x hC.b dX1_closeHour_30 rfl (lv_at hl 2 rfl) ?_
    refine lv_aload_n hC.x hC.b dX1_closeHour_31 rfl (lv_at hl 1 rfl) ?_
    refine lv_iload_n hC.x hC.b dX1_closeHour_32 rfl (lv_at hl 2 rfl) ?_
    refine gol (runV (As := [.int hr]) (rest := [.int hr, .ref (G.2.1 21)]) hC hK hR hl.1 (c6_X1_makePaper l hG s_19 t_20 hr (by omega)) (call_b hC.ts TC_X1_makePaper TN_X1 TM_X1_51 hd_X1_makePaper ⟨Nat.le_of_ble_eq_true rfl, Nat.le_of_ble_eq_true rfl⟩) TI_X1_makePaper TS_X1_makePaper (ct_closing G _ _) rfl rfl rfl (Nat.le_of_ble_eq_true rfl) dX1_closeHour_33 ⟨Nat.le_of_ble_eq_true rfl, Nat.le_of_ble_eq_true rfl⟩) hS (fun v_23 s_25 t_26 H locs w_24 hR hS => ?_)
    try dsimp only [po6_X1_makePaper] at w_24
    obtain ⟨f_27, f_28⟩ := w_24
    refine gov (runV (As := [.int hr, .long v_23]) (rest := []) hC hK hR hl.1 (c6_X1_tellXs l hG s_25 t_26 hr v_23 (by omega)) (call_b hC.ts TC_X1_tellXs TN_X1 TM_X1_55 hd_X1_tellXs ⟨Nat.le_of_ble_eq_true rfl, Nat.le_of_ble_eq_true rfl⟩) TI_X1_tellXs TS_X1_tellXs (ct_closing G _ _) rfl rfl rfl (Nat.le_of_ble_eq_true rfl) dX1_closeHour_36 ⟨Nat.le_of_ble_eq_true rfl, Nat.le_of_ble_eq_true rfl⟩) hS (fun s_31 t_32 H locs w_30 hR hS => ?_)
    try dsimp only [po6_X1_tellXs] at w_30
    obtain ⟨f_33, f_34⟩ := w_30
    refine lv_aload_n hC.x hC.b dX1_closeHour_39 rfl (lv_at hl 1 rfl) ?_
    refine lv_iload_n hC.x hC.b dX1_closeHour_40 rfl (lv_at hl 2 rfl) ?_
    refine lv_iload_n hC.x hC.b dX1_closeHour_41 rfl (lv_at hl 4 rfl) ?_
    refine gov (runV (As := [.int hr, .int ti]) (rest := []) hC hK hR hl.1 (c6_X1_judgeAll l hG s_31 t_32 hr ti (by omega) (by exact HJ6.tx (HK6.u21 hk6 es_1) hh2 f_16 f_22 f_28 f_34)) (call_b hC.ts TC_X1_judgeAll TN_X1 TM_X1_59 hd_X1_judgeAll ⟨Nat.le_of_ble_eq_true rfl, Nat.le_of_ble_eq_true rfl⟩) TI_X1_judgeAll TS_X1_judgeAll (ct_closing G _ _) rfl rfl rfl (Nat.le_of_ble_eq_true rfl) dX1_closeHour_42 ⟨Nat.le_of_ble_eq_true rfl, Nat.le_of_ble_eq_true rfl⟩) hS (fun s_37 t_38 H locs w_36 hR hS => ?_)
    try dsimp only [po6_X1_judgeAll] at w_36
    obtain ⟨f_39, f_40⟩ := w_36
    refine lv_aload_n hC.x hC.b dX1_closeHour_45 rfl (lv_at hl 1 rfl) ?_
    refine rget hC hK hR (ct_closing G _ _) rfl uin_X1 2 (by decide) TF_X1_27 rfl dX1_closeHour_46 ?_
    refine lv_iconst (v := 0) hC.x hC.b dX1_closeHour_49 (by decide) ?_
    refine lv_iload_n hC.x hC.b dX1_closeHour_50 rfl (lv_at hl 2 rfl) ?_
    refine lv_aload hC.x hC.b dX1_closeHour_51 (lv_at hl 0 rfl) ?_
    refine rget hC hK hR (ct_clock hq_7 G _ _) rfl uin_X0 0 (by decide) TF_X1_62 rfl dX1_closeHour_53 ?_
    have av_41 : (0 : Int32).toInt = 0 := by decide
    have av_42 : (nI j_6).toInt = ((j_6 : Nat) : Int) := (nI_T _ (by omega))
    refine gov (runV (As := [.int (0 : Int32), .int hr, .int (nI j_6)]) (rest := []) hC hK hR hl.1 (c6_X7_tellPaper l hG s_37 t_38 (0 : Int32) 0 (by first | rfl | (rw [show (0 : Int32).toInt = 0 from rfl]; done) | (rw [show (0 : Int32).toInt = 0 from rfl]; exact rfl)) hr (nI j_6) (by omega)) (call_b hC.ts TC_X7_tellPaper TN_X7 TM_X1_67 hd_X7_tellPaper ⟨Nat.le_of_ble_eq_true rfl, Nat.le_of_ble_eq_true rfl⟩) TI_X7_tellPaper TS_X7_tellPaper (ct_told G _ _) rfl rfl rfl (Nat.le_of_ble_eq_true rfl) dX1_closeHour_56 ⟨Nat.le_of_ble_eq_true rfl, Nat.le_of_ble_eq_true rfl⟩) hS (fun s_45 t_46 H locs w_44 hR hS => ?_)
    try dsimp only [po6_X7_tellPaper] at w_44
    obtain ⟨f_47, f_48⟩ := w_44
    refine lv_aload_n hC.x hC.b dX1_closeHour_59 rfl (lv_at hl 1 rfl) ?_
    refine rget hC hK hR (ct_closing G _ _) rfl uin_X1 2 (by decide) TF_X1_27 rfl dX1_closeHour_60 ?_
    refine lv_iconst (v := 1) hC.x hC.b dX1_closeHour_63 (by decide) ?_
    refine lv_iload_n hC.x hC.b dX1_closeHour_64 rfl (lv_at hl 2 rfl) ?_
    refine lv_aload_n hC.x hC.b dX1_closeHour_65 rfl (lv_at hl 1 rfl) ?_
    refine rget hC hK hR (ct_closing G _ _) rfl uin_X1 6 (by decide) TF_X1_15 rfl dX1_closeHour_66 ?_
    have rd_49 : (s_45 21 6).toInt = (s_12 21 6).toInt := congrArg Int32.toInt (Eq.trans (show s_45 21 6 = s_37 21 6 from congrFun (f_47.1 21 (by first | omega | (dsimp only; omega))) 6) (Eq.trans (show s_37 21 6 = s_31 21 6 from congrFun (f_39.1 21 (by first | omega | (dsimp only; omega))) 6) (Eq.trans (show s_31 21 6 = s_25 21 6 from congrFun (f_33.1 21 (by first | omega | (dsimp only; omega))) 6) (Eq.trans (show s_25 21 6 = s_19 21 6 from congrFun (f_27.1 21 (by first | omega | (dsimp only; omega))) 6) (show s_19 21 6 = s_12 21 6 from congrFun (f_21.1 21 (by first | omega | (dsimp only; omega))) 6)))))
    have av_50 : (1 : Int32).toInt = 1 := by decide
    refine gov (runV (As := [.int (1 : Int32), .int hr, .int (s_45 21 6)]) (rest := []) hC hK hR hl.1 (c6_X7_tellPaper l hG s_45 t_46 (1 : Int32) 1 (by first | rfl | (rw [show (1 : Int32).toInt = 1 from rfl]; done) | (rw [show (1 : Int32).toInt = 1 from rfl]; exact rfl)) hr (s_45 21 6) (by omega)) (call_b hC.ts TC_X7_tellPaper TN_X7 TM_X1_67 hd_X7_tellPaper ⟨Nat.le_of_ble_eq_true rfl, Nat.le_of_ble_eq_true rfl⟩) TI_X7_tellPaper TS_X7_tellPaper (ct_told G _ _) rfl rfl rfl (Nat.le_of_ble_eq_true rfl) dX1_closeHour_69 ⟨Nat.le_of_ble_eq_true rfl, Nat.le_of_ble_eq_true rfl⟩) hS (fun s_53 t_54 H locs w_52 hR hS => ?_)
    try dsimp only [po6_X7_tellPaper] at w_52
    obtain ⟨f_55, f_56⟩ := w_52
    refine lv_aload_n hC.x hC.b dX1_closeHour_72 rfl (lv_at hl 1 rfl) ?_
    refine rget hC hK hR (ct_closing G _ _) rfl uin_X1 2 (by decide) TF_X1_27 rfl dX1_closeHour_73 ?_
    refine lv_iconst (v := 5) hC.x hC.b dX1_closeHour_76 (by decide) ?_
    refine lv_iload_n hC.x hC.b dX1_closeHour_77 rfl (lv_at hl 2 rfl) ?_
    refine lv_iload_n hC.x hC.b dX1_closeHour_78 rfl (lv_at hl 3 rfl) ?_
    have av_57 : (5 : Int32).toInt = 5 := by decide
    refine gov (runV (As := [.int (5 : Int32), .int hr, .int pa]) (rest := []) hC hK hR hl.1 (c6_X7_tellPaper l hG s_53 t_54 (5 : Int32) 5 (by first | rfl | (rw [show (5 : Int32).toInt = 5 from rfl]; done) | (rw [show (5 : Int32).toInt = 5 from rfl]; exact rfl)) hr pa (by omega)) (call_b hC.ts TC_X7_tellPaper TN_X7 TM_X1_67 hd_X7_tellPaper ⟨Nat.le_of_ble_eq_true rfl, Nat.le_of_ble_eq_true rfl⟩) TI_X7_tellPaper TS_X7_tellPaper (ct_told G _ _) rfl rfl rfl (Nat.le_of_ble_eq_true rfl) dX1_closeHour_79 ⟨Nat.le_of_ble_eq_true rfl, Nat.le_of_ble_eq_true rfl⟩) hS (fun s_60 t_61 H locs w_59 hR hS => ?_)
    try dsimp only [po6_X7_tellPaper] at w_59
    obtain ⟨f_62, f_63⟩ := w_59
    refine lv_aload_n hC.x hC.b dX1_closeHour_82 rfl (lv_at hl 1 rfl) ?_
    refine rget hC hK hR (ct_closing G _ _) rfl uin_X1 6 (by decide) TF_X1_15 rfl dX1_closeHour_83 ?_
    have rd_64 : (s_60 21 6).toInt = (s_12 21 6).toInt := congrArg Int32.toInt (Eq.trans (show s_60 21 6 = s_53 21 6 from congrFun (f_62.1 21 (by first | omega | (dsimp only; omega))) 6) (Eq.trans (show s_53 21 6 = s_45 21 6 from congrFun (f_55.1 21 (by first | omega | (dsimp only; omega))) 6) (Eq.trans (show s_45 21 6 = s_37 21 6 from congrFun (f_47.1 21 (by first | omega | (dsimp only; omega))) 6) (Eq.trans (show s_37 21 6 = s_31 21 6 from congrFun (f_39.1 21 (by first | omega | (dsimp only; omega))) 6) (Eq.trans (show s_31 21 6 = s_25 21 6 from congrFun (f_33.1 21 (by first | omega | (dsimp only; omega))) 6) (Eq.trans (show s_25 21 6 = s_19 21 6 from congrFun (f_27.1 21 (by first | omega | (dsimp only; omega))) 6) (show s_19 21 6 = s_12 21 6 from congrFun (f_21.1 21 (by first | omega | (dsimp only; omega))) 6)))))))
    exact reti hC hK hR hS (⟨by exact (CF.tr (CF.tr (CF.tr (CF.tr (CF.tr (CF.tr (CF.tr (CF.tr (by rw [es_1]; exact CF.up (CF.rf) (by omega)) f_14) (CG.cf f_21)) (CG.cf f_27)) (CG.cf f_33)) (CG.cf f_39)) (CG.cf f_47)) (CG.cf f_55)) (CG.cf f_62)), by exact CHV.r (by assumption) (by assumption) (by assumption) (by assumption) (Eq.trans (show s_60 21 6 = s_53 21 6 from congrFun (f_62.1 21 (by first | omega | (dsimp only; omega))) 6) (Eq.trans (show s_53 21 6 = s_45 21 6 from congrFun (f_55.1 21 (by first | omega | (dsimp only; omega))) 6) (Eq.trans (show s_45 21 6 = s_37 21 6 from congrFun (f_47.1 21 (by first | omega | (dsimp only; omega))) 6) (Eq.trans (show s_37 21 6 = s_31 21 6 from congrFun (f_39.1 21 (by first | omega | (dsimp only; omega))) 6) (Eq.trans (show s_31 21 6 = s_25 21 6 from congrFun (f_33.1 21 (by first | omega | (dsimp only; omega))) 6) (Eq.trans (show s_25 21 6 = s_19 21 6 from congrFun (f_27.1 21 (by first | omega | (dsimp only; omega))) 6) (show s_19 21 6 = s_12 21 6 from congrFun (f_21.1 21 (by first | omega | (dsimp only; omega))) 6))))))), by (try dsimp only); exact ch_x es_1 (by assumption) (by assumption) f_15 f_16 f_22 f_28 f_34 f_40 f_48 f_56 f_63⟩) dX1_closeHour_86

abbrev po6_X9_close (σ : SI) (τ : SL) : Int32 → SI × SL → Prop := fun v u => ((v = (-1)) ∧ (u.1 = σ) ∧ (u.2 = τ) ∧ (200 ≤ (σ 0 8).toInt)) ∨ (((σ 0 8).toInt < 200) ∧ (ClC σ u.1) ∧ ((u.1 0 8).toInt = (σ 0 8).toInt + 1) ∧ ((0 < (σ 0 12).toInt ∧ (u.1 0 12).toInt = max 0 ((σ 0 12).toInt - (σ 0 11).toInt)) ∨ ((σ 0 12).toInt ≤ 0 ∧ (u.1 0 12).toInt = min 0 ((σ 0 12).toInt + (σ 0 11).toInt))) ∧ (CHV σ (σ 0 8) v) ∧ (CX6 σ u.1 v))
set_option maxRecDepth 100000 in
set_option maxHeartbeats 4000000 in
theorem c6_X9_close (l : Launch) {G : Gx} {A : Nat → Prop} (hG : GOk G A) (σ : SI) (τ : SL) (hnow : 0 ≤ (σ 0 8).toInt ∧ (σ 0 8).toInt ≤ 200) (hof : -1000000 ≤ (σ 0 12).toInt ∧ (σ 0 12).toInt ≤ 1000000) (hpc : 0 ≤ (σ 0 11).toInt ∧ (σ 0 11).toInt ≤ 3599) (hk6 : HK6 σ (σ 0 8)) : MI l G A 6 yX9_close cX9_close 2 (some .int) [.ref (G.2.1 0)] (σ, τ) (po6_X9_close σ τ ) := by
  refine met_of (own := RX9) (by decide +kernel) rfl [(0, .ref (G.2.1 0))] rfl (Nat.le_of_ble_eq_true rfl) ?_
  intro p e s m args below meth c ls hC hK hR hl
  have hS : va_S A s.heap s.heap [] := va_S.rf
  refine lv_aload_n hC.x hC.b dX9_close_0 rfl (lv_at hl 0 rfl) ?_
  refine rget hC hK hR (ct_bench G _ _) rfl uin_X9 8 (by decide) TF_X9_65 rfl dX9_close_1 ?_
  refine lv_sipush (v := 200) hC.x hC.b dX9_close_4 (by decide) ?_
  refine bi_lt (tgt := 12) (a := (σ 0 8).toInt) (b := 200) hC.x hC.b rfl rfl dX9_close_7 (by decide) (fun c_1 => ?_) (fun c_1 => ?_)
  · skip
    refine lv_aload_n hC.x hC.b dX9_close_12 rfl (lv_at hl 0 rfl) ?_
    refine rget hC hK hR (ct_bench G _ _) rfl uin_X9 5 (by decide) TF_X9_53 rfl dX9_close_13 ?_
    refine lv_aload_n hC.x hC.b dX9_close_16 rfl (lv_at hl 0 rfl) ?_
    refine rget hC hK hR (ct_bench G _ _) rfl uin_X9 8 (by decide) TF_X9_65 rfl dX9_close_17 ?_
    refine lv_aload_n hC.x hC.b dX9_close_20 rfl (lv_at hl 0 rfl) ?_
    refine rget hC hK hR (ct_bench G _ _) rfl uin_X9 9 (by decide) TF_X9_68 rfl dX9_close_21 ?_
    refine lv_aload_n hC.x hC.b dX9_close_24 rfl (lv_at hl 0 rfl) ?_
    refine rget hC hK hR (ct_bench G _ _) rfl uin_X9 10 (by decide) TF_X9_71 rfl dX9_close_25 ?_
    refine goi (runV (As := [.int (σ 0 8), .int (σ 0 9), .int (σ 0 10)]) (rest := []) hC hK hR hl.1 (c6_X1_closeHour l hG σ τ (σ 0 8) (σ 0 9) (σ 0 10) (by omega) (by assumption)) (call_b hC.ts TC_X1_closeHour TN_X1 TM_X9_194 hd_X1_closeHour ⟨Nat.le_of_ble_eq_true rfl, Nat.le_of_ble_eq_true rfl⟩) TI_X1_closeHour TS_X1_closeHour (ct_closing G _ _) rfl rfl rfl (Nat.le_of_ble_eq_true rfl) dX9_close_28 ⟨Nat.le_of_ble_eq_true rfl, Nat.le_of_ble_eq_true rfl⟩) hS (fun v_2 s_4 t_5 H locs w_3 hR hS => ?_)
    try dsimp only [po6_X1_closeHour] at w_3
    obtain ⟨f_6, f_7, f_8⟩ := w_3
    refine lv_istore_n (lv' := [(1, .int v_2), (0, .ref (G.2.1 0))]) hC.x hC.b dX9_close_31 rfl hl (by decide) rfl (fun ls hl => ?_)
    refine lv_aload_n hC.x hC.b dX9_close_32 rfl (lv_at hl 1 rfl) ?_
    have rd_9 : (s_4 0 12).toInt = (σ 0 12).toInt := congrArg Int32.toInt (show s_4 0 12 = σ 0 12 from congrFun (f_6.1 0 (by first | omega | (dsimp only; omega))) 12)
    have rd_10 : (s_4 0 11).toInt = (σ 0 11).toInt := congrArg Int32.toInt (show s_4 0 11 = σ 0 11 from congrFun (f_6.1 0 (by first | omega | (dsimp only; omega))) 11)
    refine gov (runV (As := []) (rest := []) hC hK hR hl.1 (c_X9_moveScale l hG s_4 t_5  (by omega) (by omega)) (call_b hC.ts TC_X9_moveScale TN_X9 TM_X9_197 hd_X9_moveScale ⟨Nat.le_of_ble_eq_true rfl, Nat.le_of_ble_eq_true rfl⟩) TI_X9_moveScale TS_X9_moveScale (ct_bench G _ _) rfl rfl rfl (Nat.le_of_ble_eq_true rfl) dX9_close_33 ⟨Nat.le_of_ble_eq_true rfl, Nat.le_of_ble_eq_true rfl⟩) hS (fun s_13 t_14 H locs w_12 hR hS => ?_)
    try dsimp only [po_X9_moveScale] at w_12
    obtain ⟨et_15, f_16, f_17, f_18⟩ := w_12
    rw [et_15] at hR
    refine lv_iload_n hC.x hC.b dX9_close_36 rfl (lv_at hl 0 rfl) ?_
    refine bz_le (tgt := 56) (a := v_2.toInt) (b := 0) hC.x hC.b rfl rfl dX9_close_37 (by decide) (fun c_19 => ?_) (fun c_19 => ?_)
    · skip
      refine lv_aload_n hC.x hC.b dX9_close_56 rfl (lv_at hl 1 rfl) ?_
      refine lv_dup hC.x hC.b dX9_close_57 rfl ?_
      refine rget hC hK hR (ct_bench G _ _) rfl uin_X9 8 (by decide) TF_X9_65 rfl dX9_close_58 ?_
      have rd_20 : (s_13 0 8).toInt = (σ 0 8).toInt := congrArg Int32.toInt (Eq.trans (show s_13 0 8 = s_4 0 8 from f_17 8 (by omega)) (show s_4 0 8 = σ 0 8 from congrFun (f_6.1 0 (by first | omega | (dsimp only; omega))) 8))
      refine lv_iconst (v := 1) hC.x hC.b dX9_close_61 (by decide) ?_
      refine lv_iadd hC.x hC.b dX9_close_62 ?_
      have pr_21 : ((s_13 0 8) + (1 : Int32)).toInt = ((s_13 0 8).toInt + 1) := addI rfl rfl (by omega) (by omega)
      refine rputi hC hK hG hR hS (ct_bench G _ _) rfl uin_X9 tyX9 tyX9_ok nmX9 8 (by decide) TF_X9_65 rfl (Or.inl rfl) (Nat.le_of_ble_eq_true rfl) rfl (ct_bench G _ _) dX9_close_63 (fun s_23 es_22 H locs hR hS => ?_)
      refine lv_iload_n hC.x hC.b dX9_close_66 rfl (lv_at hl 0 rfl) ?_
      have rd_24 : (s_23 0 8).toInt = ((s_13 0 8) + (1 : Int32)).toInt := congrArg Int32.toInt (show s_23 0 8 = ((s_13 0 8) + (1 : Int32)) from (by rw [es_22]; exact up2_s))
      have rd_25 : (s_23 0 12).toInt = (s_13 0 12).toInt := congrArg Int32.toInt (show s_23 0 12 = s_13 0 12 from (by rw [es_22]; exact up2_n (by omega)))
      exact reti hC hK hR hS (by first | exact Or.inl (⟨by subst es_22; (first | rfl | omega), by subst es_22; (first | rfl | assumption), by subst es_22; (rfl), by subst es_22; (first | omega | assumption)⟩) | exact Or.inr ((⟨by subst es_22; (first | omega | assumption), by subst es_22; (exact ClC.mk (by assumption) (by assumption) (by assumption) (by first | exact CG.cf (by assumption) | exact CF.rf)), by first | omega | (dsimp only; omega), by first | omega | (dsimp only; omega), by assumption, by (try dsimp only); exact cx_n (by assumption) (by assumption) (by assumption) (by assumption) (by omega) es_22⟩)) | exact False.elim (by omega)) dX9_close_67
    · skip
      refine lv_aload_n hC.x hC.b dX9_close_40 rfl (lv_at hl 1 rfl) ?_
      refine rget hC hK hR (ct_bench G _ _) rfl uin_X9 1 (by decide) TF_X9_19 rfl dX9_close_41 ?_
      refine lv_iconst (v := 4) hC.x hC.b dX9_close_44 (by decide) ?_
      refine lv_aload_n hC.x hC.b dX9_close_45 rfl (lv_at hl 1 rfl) ?_
      refine rget hC hK hR (ct_bench G _ _) rfl uin_X9 8 (by decide) TF_X9_65 rfl dX9_close_46 ?_
      have rd_26 : (s_13 0 8).toInt = (σ 0 8).toInt := congrArg Int32.toInt (Eq.trans (show s_13 0 8 = s_4 0 8 from f_17 8 (by omega)) (show s_4 0 8 = σ 0 8 from congrFun (f_6.1 0 (by first | omega | (dsimp only; omega))) 8))
      refine lv_aload_n hC.x hC.b dX9_close_49 rfl (lv_at hl 1 rfl) ?_
      refine rget hC hK hR (ct_bench G _ _) rfl uin_X9 12 (by decide) TF_X9_77 rfl dX9_close_50 ?_
      have av_27 : (4 : Int32).toInt = 4 := by decide
      refine gov (runV (As := [.int (4 : Int32), .int (s_13 0 8), .int (s_13 0 12)]) (rest := []) hC hK hR hl.1 (c6_X7_tellPaper l hG s_13 t_5 (4 : Int32) 4 (by first | rfl | (rw [show (4 : Int32).toInt = 4 from rfl]; done) | (rw [show (4 : Int32).toInt = 4 from rfl]; exact rfl)) (s_13 0 8) (s_13 0 12) (by omega)) (call_b hC.ts TC_X7_tellPaper TN_X7 TM_X9_200 hd_X7_tellPaper ⟨Nat.le_of_ble_eq_true rfl, Nat.le_of_ble_eq_true rfl⟩) TI_X7_tellPaper TS_X7_tellPaper (ct_told G _ _) rfl rfl rfl (Nat.le_of_ble_eq_true rfl) dX9_close_53 ⟨Nat.le_of_ble_eq_true rfl, Nat.le_of_ble_eq_true rfl⟩) hS (fun s_30 t_31 H locs w_29 hR hS => ?_)
      try dsimp only [po6_X7_tellPaper] at w_29
      obtain ⟨f_32, f_33⟩ := w_29
      refine lv_aload_n hC.x hC.b dX9_close_56 rfl (lv_at hl 1 rfl) ?_
      refine lv_dup hC.x hC.b dX9_close_57 rfl ?_
      refine rget hC hK hR (ct_bench G _ _) rfl uin_X9 8 (by decide) TF_X9_65 rfl dX9_close_58 ?_
      have rd_34 : (s_30 0 8).toInt = (σ 0 8).toInt := congrArg Int32.toInt (Eq.trans (show s_30 0 8 = s_13 0 8 from congrFun (f_32.1 0 (by first | omega | (dsimp only; omega))) 8) (Eq.trans (show s_13 0 8 = s_4 0 8 from f_17 8 (by omega)) (show s_4 0 8 = σ 0 8 from congrFun (f_6.1 0 (by first | omega | (dsimp only; omega))) 8)))
      refine lv_iconst (v := 1) hC.x hC.b dX9_close_61 (by decide) ?_
      refine lv_iadd hC.x hC.b dX9_close_62 ?_
      have pr_35 : ((s_30 0 8) + (1 : Int32)).toInt = ((s_30 0 8).toInt + 1) := addI rfl rfl (by omega) (by omega)
      refine rputi hC hK hG hR hS (ct_bench G _ _) rfl uin_X9 tyX9 tyX9_ok nmX9 8 (by decide) TF_X9_65 rfl (Or.inl rfl) (Nat.le_of_ble_eq_true rfl) rfl (ct_bench G _ _) dX9_close_63 (fun s_37 es_36 H locs hR hS => ?_)
      refine lv_iload_n hC.x hC.b dX9_close_66 rfl (lv_at hl 0 rfl) ?_
      have rd_38 : (s_37 0 8).toInt = ((s_30 0 8) + (1 : Int32)).toInt := congrArg Int32.toInt (show s_37 0 8 = ((s_30 0 8) + (1 : Int32)) from (by rw [es_36]; exact up2_s))
      have rd_39 : (s_37 0 12).toInt = (s_13 0 12).toInt := congrArg Int32.toInt (Eq.trans (show s_37 0 12 = s_30 0 12 from (by rw [es_36]; exact up2_n (by omega))) (show s_30 0 12 = s_13 0 12 from congrFun (f_32.1 0 (by first | omega | (dsimp only; omega))) 12))
      exact reti hC hK hR hS (by first | exact Or.inl (⟨by subst es_36; (first | rfl | omega), by subst es_36; (first | rfl | assumption), by subst es_36; (rfl), by subst es_36; (first | omega | assumption)⟩) | exact Or.inr ((⟨by subst es_36; (first | omega | assumption), by subst es_36; (exact ClC.mk (by assumption) (by assumption) (by assumption) (by first | exact CG.cf (by assumption) | exact CF.rf)), by first | omega | (dsimp only; omega), by first | omega | (dsimp only; omega), by assumption, by (try dsimp only); exact cx_y (by assumption) (by assumption) (by assumption) (by assumption) (by omega) f_33 es_36⟩)) | exact False.elim (by omega)) dX9_close_67
  · skip
    refine lv_iconst (v := (-1)) hC.x hC.b dX9_close_10 (by decide) ?_
    exact reti hC hK hR hS (by first | exact Or.inl (⟨by first | rfl | omega, by first | rfl | assumption, by rfl, by first | omega | assumption⟩) | exact Or.inr ((⟨by first | omega | assumption, by exact ClC.mk (by assumption) (by assumption) (by assumption) (by first | exact CG.cf (by assumption) | exact CF.rf), by first | omega | (dsimp only; omega), by first | omega | (dsimp only; omega), by assumption, by exfalso; omega⟩)) | exact False.elim (by omega)) dX9_close_11
