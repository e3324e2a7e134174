/-! ===== the reference's closing, with what it keeps ===== -/
def FTm (σ : SI) (p : Nat) : Int32 := FT (pX σ p) (σ 37 p).toInt (σ 35 29).toInt (σ 36 p).toInt
def FWm (σ : SI) (p : Nat) : Int32 := FW6 (σ 41 p).toInt (FTm σ p) (pM σ p) (σ 38 p).toInt (σ 35 29).toInt
def SWp (a w : Nat → Int32) : Nat → Int64
  | 0 => 0
  | n + 1 => if (a n).toInt = 0 then SWp a w n else SWp a w n + (w n).toInt64
theorem SWp_c {a w a' w' : Nat → Int32} : ∀ n, (∀ p, p < n → a' p = a p ∧ w' p = w p) → SWp a' w' n = SWp a w n
  | 0, _ => rfl
  | n + 1, h => by
    show (if (a' n).toInt = 0 then SWp a' w' n else SWp a' w' n + (w' n).toInt64) = (if (a n).toInt = 0 then SWp a w n else SWp a w n + (w n).toInt64)
    rw [SWp_c n (fun p hp => h p (by omega)), (h n (by omega)).1, (h n (by omega)).2]
def PD6 (σ : SI) (ra : Int32) (rq p : Nat) (d : Int32) : Prop := TkM σ p ∧ ∃ s2, GO σ s2 (nI p) ra (σ 35 29) (σ 35 29).toInt.toNat 1 ∧ d = s2 35 43 - σ 42 p + σ 42 rq
def MA6 (σ s : SI) (ra : Int32) (rq n : Nat) (x3 : Int64) : Prop :=
  (∀ k, k ≠ 35 → k ≠ 55 → k ≠ 57 → k ≠ 58 → ¬ (68 ≤ k ∧ k ≤ 71) → s k = σ k) ∧ (∀ j, j ≠ 41 → j ≠ 43 → j ≠ 44 → s 35 j = σ 35 j) ∧
  (∀ j, (∀ p, p < n → j ≠ 24 * (σ 35 29).toInt.toNat + p) → s 55 j = σ 55 j ∧ s 57 j = σ 57 j ∧ s 58 j = σ 58 j) ∧
  (∀ p, p < n → (s 71 p = 1 ∧ PD6 σ ra rq p (rw6 s 58 (σ 35 29) p) ∧ rw6 s 55 (σ 35 29) p = FTm σ p ∧ rw6 s 57 (σ 35 29) p = FWm σ p) ∨ (s 71 p = 0 ∧ QM σ ra p)) ∧
  x3 = SWp (s 71) (rw6 s 57 (σ 35 29)) n
abbrev MGg (s s1 : SI) : Prop := MRel (fun k => k = 68 ∨ k = 69) (fun j => j = 41 ∨ j = 43) s s1
theorem MA6.st {σ : SI} {ra : Int32} {rq : Nat} : MA6 σ σ ra rq 0 0 := ⟨fun _ _ _ _ _ _ => rfl, fun _ _ _ _ => rfl, fun _ _ => ⟨rfl, rfl, rfl⟩, fun p hp => absurd hp (Nat.not_lt_zero p), rfl⟩
theorem MA6.q {σ s s1 s2 : SI} {ra : Int32} {rq n : Nat} {x3 : Int64} (h : MA6 σ s ra rq n x3) (r : MGg s s1) (e : s2 = up2 s1 71 n 0) (hq : QM σ ra n) : MA6 σ s2 ra rq (n + 1) x3 := by
  obtain ⟨h1, h2, h3, h4, h5⟩ := h
  have g : ∀ k, k ≠ 35 → k ≠ 68 → k ≠ 69 → k ≠ 71 → s2 k = s k := fun k a b c d => by rw [e, up2_ne d]; exact r.1 k a (by omega)
  have g71 : ∀ p, p ≠ n → s2 71 p = s 71 p := fun p hp => by rw [e, up2_n hp]; exact congrFun (r.1 71 (by decide) (by omega)) p
  have e55 : s2 55 = s 55 := g 55 (by decide) (by decide) (by decide) (by decide)
  have e57 : s2 57 = s 57 := g 57 (by decide) (by decide) (by decide) (by decide)
  have e58 : s2 58 = s 58 := g 58 (by decide) (by decide) (by decide) (by decide)
  refine ⟨fun k a b c d f => by rw [g k a (by omega) (by omega) (by omega)]; exact h1 k a b c d f, fun j a b c => by rw [e, up2_o (by decide), r.2 j (by omega)]; exact h2 j a b c, fun j hj => by rw [e55, e57, e58]; exact h3 j (fun p hp => hj p (by omega)), fun p hp => ?_, ?_⟩
  · by_cases z : p = n
    · subst z
      exact Or.inr ⟨by rw [e]; exact up2_s, hq⟩
    · have a := h4 p (by omega)
      unfold rw6 at a ⊢
      rw [g71 p z, e55, e57, e58]
      exact a
  · show x3 = (if (s2 71 n).toInt = 0 then _ else _)
    rw [if_pos (by rw [e, up2_s]; decide), h5]
    exact (SWp_c n (fun p hp => ⟨g71 p (by omega), by show s2 57 _ = s 57 _; rw [e57]⟩)).symm
theorem MA6.p {σ s s1 s2 s3 s4 s5 s6 s7 : SI} {ra : Int32} {rq n i3 i5 i7 i8 : Nat} {x3 y : Int64} (h : MA6 σ s ra rq n x3) (hn : n < 24) (r1 : MGg s s1) (e2 : s2 = up2 s1 71 n 1) (e3 : s3 = up2 s2 58 i3 (((s2 35 43) - (s2 42 n)) + (s2 42 rq))) (r4 : MFr s3 s4)
    (e5 : s5 = up2 s4 55 i5 (FT (pX s3 n) (s3 37 n).toInt (s3 35 29).toInt (s3 36 n).toInt)) (r6 : MFr s5 s6) (e7 : s7 = up2 s6 57 i7 (FW6 (s5 41 n).toInt (FT (pX s5 n) (s5 37 n).toInt (s5 35 29).toInt (s5 36 n).toInt) (pM s5 n) (s5 38 n).toInt (s5 35 29).toInt))
    (hi3 : i3 = 24 * (σ 35 29).toInt.toNat + n) (hi5 : i5 = 24 * (σ 35 29).toInt.toNat + n) (hi7 : i7 = 24 * (σ 35 29).toInt.toNat + n) (hi8 : i8 = 24 * (σ 35 29).toInt.toNat + n) (tk : TkM σ n) (go : GO σ s1 (nI n) ra (σ 35 29) (σ 35 29).toInt.toNat 1) (ey : y = x3 + (s7 57 i8).toInt64) : MA6 σ s7 ra rq (n + 1) y := by
  obtain ⟨h1, h2, h3, h4, h5⟩ := h
  subst hi3
  subst hi5
  subst hi7
  subst hi8
  have k2 : ∀ k, k ≠ 35 → k ≠ 68 → k ≠ 69 → k ≠ 71 → s2 k = s k := fun k a b c d => by rw [e2, up2_ne d]; exact r1.1 k a (by omega)
  have j2 : ∀ j, j ≠ 41 → j ≠ 43 → s2 35 j = s 35 j := fun j a b => by rw [e2, up2_o (by decide)]; exact r1.2 j (by omega)
  have k3 : ∀ k, k ≠ 58 → s3 k = s2 k := fun k a => by rw [e3]; exact up2_ne a
  have k4 : ∀ k, k ≠ 35 → s4 k = s3 k := fun k a => r4.1 k a (fun h => h)
  have j4 : ∀ j, j ≠ 44 → s4 35 j = s3 35 j := fun j a => r4.2 j a
  have k5 : ∀ k, k ≠ 55 → s5 k = s4 k := fun k a => by rw [e5]; exact up2_ne a
  have k6 : ∀ k, k ≠ 35 → s6 k = s5 k := fun k a => r6.1 k a (fun h => h)
  have j6 : ∀ j, j ≠ 44 → s6 35 j = s5 35 j := fun j a => r6.2 j a
  have k7 : ∀ k, k ≠ 57 → s7 k = s6 k := fun k a => by rw [e7]; exact up2_ne a
  have m3 : ∀ k, k ≠ 35 → k ≠ 58 → k ≠ 68 → k ≠ 69 → k ≠ 71 → s3 k = s k := fun k a b c d f => (k3 k b).trans (k2 k a c d f)
  have m5 : ∀ k, k ≠ 35 → k ≠ 55 → k ≠ 58 → k ≠ 68 → k ≠ 69 → k ≠ 71 → s5 k = s k := fun k a z b c d f => (k5 k z).trans ((k4 k a).trans (m3 k a b c d f))
  have n3 : ∀ j, j ≠ 41 → j ≠ 43 → s3 35 j = s 35 j := fun j a b => by rw [k3 35 (by decide)]; exact j2 j a b
  have n5 : ∀ j, j ≠ 41 → j ≠ 43 → j ≠ 44 → s5 35 j = s 35 j := fun j a b c => by rw [k5 35 (by decide), j4 j c]; exact n3 j a b
  have w3 : ∀ k, 36 ≤ k → k ≤ 54 → s3 k = σ k := fun k a b => (m3 k (by omega) (by omega) (by omega) (by omega) (by omega)).trans (h1 k (by omega) (by omega) (by omega) (by omega) (by omega))
  have w5 : ∀ k, 36 ≤ k → k ≤ 56 → k ≠ 55 → s5 k = σ k := fun k a b c => (m5 k (by omega) c (by omega) (by omega) (by omega) (by omega)).trans (h1 k (by omega) (by omega) (by omega) (by omega) (by omega))
  have t3 : s3 35 29 = σ 35 29 := (n3 29 (by decide) (by decide)).trans (h2 29 (by decide) (by decide) (by decide))
  have t5 : s5 35 29 = σ 35 29 := (n5 29 (by decide) (by decide) (by decide)).trans (h2 29 (by decide) (by decide) (by decide))
  have x3e : pX s3 n = pX σ n := pX_ex (w3 43 (by decide) (by decide)) t3 (w3 52 (by decide) (by decide)) (w3 54 (by decide) (by decide))
  have x5e : pX s5 n = pX σ n := pX_ex (w5 43 (by decide) (by decide) (by decide)) t5 (w5 52 (by decide) (by decide) (by decide)) (w5 54 (by decide) (by decide) (by decide))
  have y5e : pM s5 n = pM σ n := pM_ex (w5 43 (by decide) (by decide) (by decide)) t5 (w5 52 (by decide) (by decide) (by decide)) (w5 53 (by decide) (by decide) (by decide)) (w5 56 (by decide) (by decide) (by decide))
  rw [x3e, t3, w3 37 (by decide) (by decide), w3 36 (by decide) (by decide)] at e5
  rw [x5e, y5e, t5, w5 37 (by decide) (by decide) (by decide), w5 36 (by decide) (by decide) (by decide), w5 38 (by decide) (by decide) (by decide), w5 41 (by decide) (by decide) (by decide)] at e7
  have d42 : s2 42 = σ 42 := (k2 42 (by decide) (by decide) (by decide) (by decide)).trans (h1 42 (by decide) (by decide) (by decide) (by decide) (by omega))
  have d43 : s2 35 43 = s1 35 43 := by rw [e2, up2_o (by decide)]
  rw [d42, d43] at e3
  have q55 : ∀ j, j ≠ 24 * (σ 35 29).toInt.toNat + n → s7 55 j = s 55 j := fun j hj => by
    rw [k7 55 (by decide), k6 55 (by decide), e5, up2_n hj, k4 55 (by decide), m3 55 (by decide) (by decide) (by decide) (by decide) (by decide)]
  have q57 : ∀ j, j ≠ 24 * (σ 35 29).toInt.toNat + n → s7 57 j = s 57 j := fun j hj => by
    rw [e7, up2_n hj, k6 57 (by decide), m5 57 (by decide) (by decide) (by decide) (by decide) (by decide) (by decide)]
  have q58 : ∀ j, j ≠ 24 * (σ 35 29).toInt.toNat + n → s7 58 j = s 58 j := fun j hj => by
    rw [k7 58 (by decide), k6 58 (by decide), k5 58 (by decide), k4 58 (by decide), e3, up2_n hj, k2 58 (by decide) (by decide) (by decide) (by decide)]
  have q71 : s7 71 = s2 71 := by rw [k7 71 (by decide), k6 71 (by decide), k5 71 (by decide), k4 71 (by decide), k3 71 (by decide)]
  have p71 : ∀ p, p ≠ n → s7 71 p = s 71 p := fun p hp => by rw [q71, e2, up2_n hp]; exact congrFun (r1.1 71 (by decide) (by omega)) p
  have n71 : s7 71 n = 1 := by rw [q71, e2, up2_s]
  refine ⟨fun k a b c d f => ?_, fun j a b c => ?_, fun j hj => ?_, fun p hp => ?_, ?_⟩
  · rw [k7 k c, k6 k a, m5 k a b d (by omega) (by omega) (by omega)]
    exact h1 k a b c d f
  · rw [k7 35 (by decide), j6 j c, n5 j a b c]
    exact h2 j a b c
  · have hne := hj n (by omega)
    rw [q55 j hne, q57 j hne, q58 j hne]
    exact h3 j (fun p hp => hj p (by omega))
  · by_cases z : p = n
    · subst z
      left
      refine ⟨n71, ⟨tk, s1, go, ?_⟩, ?_, ?_⟩
      · show s7 58 _ = _
        rw [k7 58 (by decide), k6 58 (by decide), k5 58 (by decide), k4 58 (by decide), e3, up2_s]
      · show s7 55 _ = _
        rw [k7 55 (by decide), k6 55 (by decide), e5, up2_s]
        rfl
      · show s7 57 _ = _
        rw [e7, up2_s]
        rfl
    · have a := h4 p (by omega)
      unfold rw6 at a ⊢
      rw [p71 p z, q55 _ (by omega), q57 _ (by omega), q58 _ (by omega)]
      exact a
  · show y = (if (s7 71 n).toInt = 0 then _ else _)
    rw [if_neg (by rw [n71]; decide), ey, h5]
    rw [SWp_c (a := s 71) (w := rw6 s 57 (σ 35 29)) n (fun p hp => ⟨p71 p (by omega), q57 _ (by omega)⟩)]
/-! weights and sums -/
theorem mo_1 {pa : Int32} {x3 y : Int64} (e : y = x3 * pa.toInt64 / 100) (c : y.toInt < 1) : (1 : Int64).toInt = mo6 pa x3 := by
  unfold mo6
  rw [Int64.mul_comm, ← e, show (1 : Int64).toInt = 1 from by decide]
  omega
theorem mo_2 {pa : Int32} {x3 y : Int64} (e : y = x3 * pa.toInt64 / 100) (c : 1 ≤ y.toInt) : y.toInt = mo6 pa x3 := by
  unfold mo6
  rw [Int64.mul_comm, ← e]
  omega
theorem mo6_1 {pa : Int32} {S : Int64} : 1 ≤ mo6 pa S := by
  unfold mo6
  omega
def SB6 (a w f d : Nat → Int32) : Nat → Int64 × Int64
  | 0 => (0, 0)
  | n + 1 => if (a n).toInt = 0 then SB6 a w f d n else ((SB6 a w f d n).1 + (w n).toInt64, if 0 < (w n).toInt then (SB6 a w f d n).2 + (w n).toInt64 * ((f n).toInt64 + (d n).toInt64) else (SB6 a w f d n).2)
def MB6 (σ s : SI) (hr : Int32) (m : Int) (n : Nat) (x7 x9 : Int64) : Prop :=
  (∀ k, k ≠ 57 → s k = σ k) ∧ (∀ j, (∀ p, p < n → j ≠ 24 * hr.toInt.toNat + p) → s 57 j = σ 57 j) ∧ (∀ p, p < n → rw6 s 57 hr p = if (σ 71 p).toInt = 0 then rw6 σ 57 hr p else wt6 (rw6 σ 57 hr p) m) ∧
  (x7, x9) = SB6 (σ 71) (fun p => wt6 (rw6 σ 57 hr p) m) (rw6 σ 55 hr) (rw6 σ 58 hr) n
theorem MB6.st {σ : SI} {hr : Int32} {m : Int} : MB6 σ σ hr m 0 0 0 := ⟨fun _ _ => rfl, fun _ _ => rfl, fun p hp => absurd hp (Nat.not_lt_zero p), rfl⟩
theorem MB6.q {σ s : SI} {hr : Int32} {m : Int} {n : Nat} {x7 x9 : Int64} (h : MB6 σ s hr m n x7 x9) (c : (s 71 n).toInt = 0) : MB6 σ s hr m (n + 1) x7 x9 := by
  obtain ⟨h1, h2, h3, h4⟩ := h
  rw [h1 71 (by decide)] at c
  refine ⟨h1, fun j hj => h2 j (fun p hp => hj p (by omega)), fun p hp => ?_, ?_⟩
  · by_cases z : p = n
    · subst z
      rw [if_pos c]
      exact h2 _ (fun p' hp' => by omega)
    · exact h3 p (by omega)
  · show _ = (if _ then _ else _)
    rw [if_pos c]
    exact h4
theorem MB6.p {σ s s' : SI} {hr v : Int32} {m : Int} {n i : Nat} {x7 x9 y7 y9 : Int64} (h : MB6 σ s hr m n x7 x9) (hm : 1 ≤ m) (c : (s 71 n).toInt ≠ 0) (ev : s' = up2 s 57 (24 * hr.toInt.toNat + n) v) (hv : v.toInt = min (s 57 (24 * hr.toInt.toNat + n)).toInt m) (hi : i = 24 * hr.toInt.toNat + n) (e7 : y7 = x7 + (s' 57 i).toInt64)
    (e9 : (0 < (s' 57 i).toInt ∧ y9 = x9 + (s' 57 i).toInt64 * ((s' 55 i).toInt64 + (s' 58 i).toInt64)) ∨ ((s' 57 i).toInt ≤ 0 ∧ y9 = x9)) : MB6 σ s' hr m (n + 1) y7 y9 := by
  obtain ⟨h1, h2, h3, h4⟩ := h
  subst hi
  have g : ∀ k, k ≠ 57 → s' k = s k := fun k hk => by rw [ev]; exact up2_ne hk
  rw [h1 71 (by decide)] at c
  have old : s 57 (24 * hr.toInt.toNat + n) = σ 57 (24 * hr.toInt.toNat + n) := h2 _ (fun p hp => by omega)
  rw [old] at hv
  have ew : v = wt6 (rw6 σ 57 hr n) m := i32_ext (by rw [wt6_T hm]; exact hv)
  have e57 : s' 57 (24 * hr.toInt.toNat + n) = wt6 (rw6 σ 57 hr n) m := by rw [ev, up2_s, ew]
  rw [e57, g 55 (by decide), g 58 (by decide), h1 55 (by decide), h1 58 (by decide)] at e9
  rw [e57] at e7
  refine ⟨fun k hk => (g k hk).trans (h1 k hk), fun j hj => ?_, fun p hp => ?_, ?_⟩
  · have := hj n (by omega)
    rw [ev, up2_n this]
    exact h2 j (fun p hp => hj p (by omega))
  · by_cases z : p = n
    · subst z
      rw [if_neg c]
      exact e57
    · show s' 57 _ = _
      rw [ev, up2_n (by omega)]
      exact h3 p (by omega)
  · have a7 : x7 = _ := congrArg Prod.fst h4
    have a9 : x9 = _ := congrArg Prod.snd h4
    show (y7, y9) = (if (σ 71 n).toInt = 0 then _ else _)
    rw [if_neg c, e7, ← a7]
    rcases e9 with ⟨e9, f9⟩ | ⟨e9, f9⟩
    · rw [if_pos e9, f9, ← a9]
    · rw [if_neg (show ¬ (0 < (wt6 (rw6 σ 57 hr n) m).toInt) by omega), f9, ← a9]
def XR6 (x7 x9 x11 : Int64) : Prop := (x7.toInt = 0 ∧ x11 = 0) ∨ (x7.toInt ≠ 0 ∧ (0 < x7.toInt → x7.toInt < 4000000000000000000 → -4000000000000000000 < x9.toInt → x11.toInt = x9.toInt / x7.toInt))
def MP7 (σ s : SI) (hr x2 : Int32) (x7 x9 x11 : Int64) : Prop :=
  (∀ k, k ≠ 60 → k ≠ 61 → k ≠ 64 → s k = σ k) ∧ (∀ j, j ≠ hr.toInt.toNat → s 60 j = σ 60 j ∧ s 61 j = σ 61 j ∧ s 64 j = σ 64 j) ∧ s 60 hr.toInt.toNat = x2 ∧ s 64 hr.toInt.toNat = x7.toInt32 ∧
  ((x7.toInt = 0 ∧ s 61 hr.toInt.toNat = 0) ∨ (x7.toInt ≠ 0 ∧ s 61 hr.toInt.toNat = (x9 - x11 * x7).toInt32))
theorem mp7_mk {σ s1 s2 s3 : SI} {hr x2 v : Int32} {x7 x9 x11 : Int64} {i1 i2 i3 : Nat} (e1 : s1 = up2 σ 60 i1 x2) (e2 : s2 = up2 s1 64 i2 x7.toInt32) (e3 : s3 = up2 s2 61 i3 v) (h1 : i1 = hr.toInt.toNat) (h2 : i2 = hr.toInt.toNat) (h3 : i3 = hr.toInt.toNat) (hv : (x7.toInt = 0 ∧ v = 0) ∨ (x7.toInt ≠ 0 ∧ v = (x9 - x11 * x7).toInt32)) : MP7 σ s3 hr x2 x7 x9 x11 := by
  subst h1
  subst h2
  subst h3
  have a : s3 61 hr.toInt.toNat = v := by rw [e3, up2_s]
  refine ⟨fun k a b c => by rw [e3, up2_ne b, e2, up2_ne c, e1, up2_ne a], fun j hj => ⟨by rw [e3, up2_o (by decide), e2, up2_o (by decide), e1, up2_n hj], by rw [e3, up2_n hj, e2, up2_o (by decide), e1, up2_o (by decide)], by rw [e3, up2_o (by decide), e2, up2_n hj, e1, up2_o (by decide)]⟩, by rw [e3, up2_o (by decide), e2, up2_o (by decide), e1, up2_s], by rw [e3, up2_o (by decide), e2, up2_s], ?_⟩
  rw [a]
  exact hv
/-! X, what was MISSED, steps and drifts -/
theorem pM_now {σ s : SI} {q : Nat} (hq : q < 24) (e43 : s 43 = σ 43) (e29 : s 35 29 = σ 35 29) (he : ∀ j, j < 24 * (σ 35 29).toInt.toNat → s 52 j = σ 52 j ∧ s 53 j = σ 53 j ∧ s 56 j = σ 56 j) : pM s q = pM σ q ∧ ∀ t, isMp s q t ↔ isMp σ q t := by
  have key : ∀ t, isMp s q t ↔ isMp σ q t := fun t => by
    unfold isMp isXp
    rw [e43, e29]
    by_cases z : 0 ≤ t ∧ t < (σ 35 29).toInt
    · have g := he (24 * t.toNat + q) (by omega)
      rw [g.1, g.2.1]
    · constructor <;> rintro ⟨⟨a, b, c, d⟩, f⟩ <;> exact absurd ⟨b, c⟩ z
  refine ⟨funext fun t => ?_, key⟩
  by_cases z : isMp σ q t
  · rw [pM_v z, pM_v ((key t).mpr z)]
    exact (he (24 * t.toNat + q) (by have := z.1.2.2.1; have := z.1.2.1; omega)).2.2
  · have a : pM σ q t = 2000000000 := if_neg z
    have b : pM s q t = 2000000000 := if_neg (fun h => z ((key t).mp h))
    rw [a, b]
abbrev Jm6 (σ : SI) (hr : Int32) (p : Nat) : Prop := (rw6 σ 55 hr p).toInt ≠ 2000000000 ∧ (σ 41 p).toInt = 0
abbrev JVm (σ s : SI) (hr : Int32) (p : Nat) (S S' : St6) : Prop := JV6 (pM σ p) (σ 38 p).toInt hr p (σ 35 31) (rw6 s 56 hr p) (σ 41 p) (σ 44 p) (σ 45 p) (σ 46 p) S (s 41 p) (s 44 p) (s 45 p) (s 46 p) S'
abbrev Sm6 (σ s : SI) (p : Nat) : Prop := s 41 p = σ 41 p ∧ s 44 p = σ 44 p ∧ s 45 p = σ 45 p ∧ s 46 p = σ 46 p
def MX6 (σ s : SI) (hr : Int32) (xr : Int64) (n : Nat) : Prop :=
  (∀ k, k ≠ 35 → k ≠ 41 → ¬ (44 ≤ k ∧ k ≤ 46) → k ≠ 54 → k ≠ 56 → ¬ (65 ≤ k ∧ k ≤ 67) → s k = σ k) ∧ (∀ j, j ≠ 37 → s 35 j = σ 35 j) ∧ (∀ j, (∀ p, p < n → j ≠ 24 * hr.toInt.toNat + p) → s 54 j = σ 54 j ∧ s 56 j = σ 56 j) ∧ (∀ p, n ≤ p → Sm6 σ s p) ∧
  ∃ S : Nat → St6, S 0 = stM6 σ ∧ stM6 s = S n ∧ ∀ p, p < n → ((σ 71 p).toInt = 0 ∧ rw6 s 54 hr p = rw6 σ 54 hr p ∧ rw6 s 56 hr p = rw6 σ 56 hr p ∧ Sm6 σ s p ∧ S (p + 1) = S p) ∨
    ((σ 71 p).toInt ≠ 0 ∧ rw6 s 54 hr p = (xr - (rw6 σ 58 hr p).toInt64).toInt32 ∧ cv6 (rw6 s 56 hr p) ((rw6 s 54 hr p).toInt64 - (rw6 σ 55 hr p).toInt64) ∧ ((Jm6 σ hr p ∧ JVm σ s hr p (S p) (S (p + 1))) ∨ (¬ Jm6 σ hr p ∧ Sm6 σ s p ∧ S (p + 1) = S p)))
theorem MX6.st {σ : SI} {hr : Int32} {xr : Int64} : MX6 σ σ hr xr 0 := ⟨fun _ _ _ _ _ _ _ => rfl, fun _ _ => rfl, fun _ _ => ⟨rfl, rfl⟩, fun _ _ => ⟨rfl, rfl, rfl, rfl⟩, fun _ => stM6 σ, rfl, rfl, fun p hp => absurd hp (Nat.not_lt_zero p)⟩
theorem st_ext {S : Nat → St6} {T : St6} {n : Nat} : (fun i => if i ≤ n then S i else T) (n + 1) = T ∧ ∀ i, i ≤ n → (fun i => if i ≤ n then S i else T) i = S i :=
  ⟨if_neg (by omega), fun i hi => if_pos hi⟩
theorem MX6.q {σ s : SI} {hr : Int32} {xr : Int64} {n : Nat} (h : MX6 σ s hr xr n) (c : (s 71 n).toInt = 0) : MX6 σ s hr xr (n + 1) := by
  obtain ⟨h1, h2, h3, h4, S, h5, h6, h7⟩ := h
  rw [h1 71 (by decide) (by decide) (by omega) (by decide) (by decide) (by omega)] at c
  obtain ⟨t1, t2⟩ := st_ext (S := S) (T := S n) (n := n)
  have a := h3 (24 * hr.toInt.toNat + n) (fun p hp => by omega)
  refine ⟨h1, h2, fun j hj => h3 j (fun p hp => hj p (by omega)), fun p hp => h4 p (by omega), fun i => if i ≤ n then S i else S n, (t2 0 (by omega)).trans h5, h6.trans t1.symm, fun p hp => ?_⟩
  by_cases z : p = n
  · subst z
    exact Or.inl ⟨c, a.1, a.2, h4 p (Nat.le_refl p), t1.trans (t2 p (Nat.le_refl p)).symm⟩
  · have b := h7 p (by omega)
    rw [← t2 p (by omega), ← t2 (p + 1) (by omega)] at b
    exact b
/-- one place: its X and what it MISSED, and then perhaps its steps and drifts -/
theorem MX6.p {σ s s1 s2 : SI} {hr a v : Int32} {xr : Int64} {n : Nat} (h : MX6 σ s hr xr n) (hr29 : hr = σ 35 29) (hn : n < 24) (c : (s 71 n).toInt ≠ 0) (e1 : s1 = up2 (up2 s 54 (24 * hr.toInt.toNat + n) a) 56 (24 * hr.toInt.toNat + n) v) (ea : a = (xr - (s 58 (24 * hr.toInt.toNat + n)).toInt64).toInt32)
    (hv : cv6 v (a.toInt64 - (s 55 (24 * hr.toInt.toNat + n)).toInt64)) (hj : (Jm6 s1 hr n ∧ JM6 s1 s2 n (s1 56 (24 * hr.toInt.toNat + n))) ∨ (¬ Jm6 s1 hr n ∧ s2 = s1)) : MX6 σ s2 hr xr (n + 1) := by
  obtain ⟨h1, h2, h3, h4, S, h5, h6, h7⟩ := h
  have H : ∀ k, k ≠ 35 → k ≠ 41 → ¬ (44 ≤ k ∧ k ≤ 46) → k ≠ 54 → k ≠ 56 → ¬ (65 ≤ k ∧ k ≤ 67) → s k = σ k := h1
  have g1 : ∀ k, k ≠ 54 → k ≠ 56 → s1 k = s k := fun k a b => by rw [e1, up2_ne b, up2_ne a]
  have v54 : s1 54 (24 * hr.toInt.toNat + n) = a := by rw [e1, up2_o (by decide), up2_s]
  have v56 : s1 56 (24 * hr.toInt.toNat + n) = v := by rw [e1, up2_s]
  have o54 : ∀ j, j ≠ 24 * hr.toInt.toNat + n → s1 54 j = s 54 j := fun j hj => by rw [e1, up2_o (by decide), up2_n hj]
  have o56 : ∀ j, j ≠ 24 * hr.toInt.toNat + n → s1 56 j = s 56 j := fun j hj => by rw [e1, up2_n hj, up2_o (by decide)]
  -- s2 from s1
  have g2 : ∀ k, k ≠ 35 → k ≠ 41 → ¬ (44 ≤ k ∧ k ≤ 46) → ¬ (65 ≤ k ∧ k ≤ 67) → s2 k = s1 k := by
    rcases hj with ⟨-, q⟩ | ⟨-, q⟩
    · exact q.1
    · exact fun k _ _ _ _ => by rw [q]
  have g2j : ∀ j, j ≠ 37 → s2 35 j = s1 35 j := by
    rcases hj with ⟨-, q⟩ | ⟨-, q⟩
    · exact q.2.1
    · exact fun j _ => by rw [q]
  have g2s : ∀ p, p ≠ n → Sm6 s1 s2 p := by
    rcases hj with ⟨-, q⟩ | ⟨-, q⟩
    · exact q.2.2.1
    · exact fun p _ => by rw [q]; exact ⟨rfl, rfl, rfl, rfl⟩
  have sm : ∀ p, Sm6 s s1 p := fun p => ⟨by rw [g1 41 (by decide) (by decide)], by rw [g1 44 (by decide) (by decide)], by rw [g1 45 (by decide) (by decide)], by rw [g1 46 (by decide) (by decide)]⟩
  have st1 : stM6 s1 = stM6 s := by
    unfold stM6
    rw [g1 35 (by decide) (by decide), g1 65 (by decide) (by decide), g1 66 (by decide) (by decide), g1 67 (by decide) (by decide)]
  have e54 : s2 54 = s1 54 := g2 54 (by decide) (by decide) (by omega) (by omega)
  have e56 : s2 56 = s1 56 := g2 56 (by decide) (by decide) (by omega) (by omega)
  have c71 : s 71 = σ 71 := h1 71 (by decide) (by decide) (by omega) (by decide) (by decide) (by omega)
  have c58 : s 58 = σ 58 := h1 58 (by decide) (by decide) (by omega) (by decide) (by decide) (by omega)
  have c55 : s 55 = σ 55 := h1 55 (by decide) (by decide) (by omega) (by decide) (by decide) (by omega)
  have c38 : s1 38 = σ 38 := (g1 38 (by decide) (by decide)).trans (h1 38 (by decide) (by decide) (by omega) (by decide) (by decide) (by omega))
  have c31 : s1 35 31 = σ 35 31 := by rw [g1 35 (by decide) (by decide)]; exact h2 31 (by decide)
  have c29 : s1 35 29 = σ 35 29 := by rw [g1 35 (by decide) (by decide)]; exact h2 29 (by decide)
  have epm : pM s1 n = pM σ n := by
    refine (pM_now hn ?_ c29 (fun j hj => ⟨?_, ?_, ?_⟩)).1
    · rw [g1 43 (by decide) (by decide)]; exact h1 43 (by decide) (by decide) (by omega) (by decide) (by decide) (by omega)
    · rw [g1 52 (by decide) (by decide), h1 52 (by decide) (by decide) (by omega) (by decide) (by decide) (by omega)]
    · rw [g1 53 (by decide) (by decide), h1 53 (by decide) (by decide) (by omega) (by decide) (by decide) (by omega)]
    · rw [← hr29] at hj
      rw [o56 j (by omega)]
      exact (h3 j (fun p hp => by omega)).2
  have sn := h4 n (Nat.le_refl n)
  rw [c71] at c
  rw [c58] at ea
  rw [c55] at hv
  obtain ⟨t1, t2⟩ := st_ext (S := S) (T := stM6 s2) (n := n)
  refine ⟨fun k a b c d e f => ?_, fun j hj => ?_, fun j hj => ?_, fun p hp => ?_, fun i => if i ≤ n then S i else stM6 s2, (t2 0 (by omega)).trans h5, t1.symm, fun p hp => ?_⟩
  · rw [g2 k a b c f, g1 k d e]
    exact h1 k a b c d e f
  · rw [g2j j hj, g1 35 (by decide) (by decide)]
    exact h2 j hj
  · have := hj n (by omega)
    rw [e54, e56, o54 j this, o56 j this]
    exact h3 j (fun p hp => hj p (by omega))
  · have a := g2s p (by omega)
    have b := sm p
    have d := h4 p (by omega)
    exact ⟨a.1.trans (b.1.trans d.1), a.2.1.trans (b.2.1.trans d.2.1), a.2.2.1.trans (b.2.2.1.trans d.2.2.1), a.2.2.2.trans (b.2.2.2.trans d.2.2.2)⟩
  · by_cases z : p = n
    · subst z
      right
      have x54 : rw6 s2 54 hr p = a := by show s2 54 _ = a; rw [e54]; exact v54
      have x56 : rw6 s2 56 hr p = v := by show s2 56 _ = v; rw [e56]; exact v56
      refine ⟨c, by rw [x54]; exact ea, by rw [x54, x56]; exact hv, ?_⟩
      have jm : Jm6 s1 hr p ↔ Jm6 σ hr p := by
        unfold Jm6 rw6
        rw [g1 55 (by decide) (by decide), c55, (sm p).1, sn.1]
      rw [t1, t2 p (Nat.le_refl p)]
      rcases hj with ⟨q1, q2⟩ | ⟨q1, q2⟩
      · left
        refine ⟨jm.mp q1, ?_⟩
        have q3 := q2.2.2.2
        rw [epm, c38, c29, c31, v56, (sm p).1, (sm p).2.1, (sm p).2.2.1, (sm p).2.2.2, sn.1, sn.2.1, sn.2.2.1, sn.2.2.2, st1, h6, ← hr29] at q3
        unfold JVm
        rw [x56]
        exact q3
      · right
        refine ⟨fun w => q1 (jm.mpr w), ?_, ?_⟩
        · rw [q2]
          exact ⟨(sm p).1.trans sn.1, (sm p).2.1.trans sn.2.1, (sm p).2.2.1.trans sn.2.2.1, (sm p).2.2.2.trans sn.2.2.2⟩
        · rw [q2, st1]
          exact h6
    · have b := h7 p (by omega)
      rw [← t2 p (by omega), ← t2 (p + 1) (by omega)] at b
      have k54 : rw6 s2 54 hr p = rw6 s 54 hr p := by show s2 54 _ = s 54 _; rw [e54, o54 _ (by omega)]
      have k56 : rw6 s2 56 hr p = rw6 s 56 hr p := by show s2 56 _ = s 56 _; rw [e56, o56 _ (by omega)]
      have a := g2s p z
      have d := sm p
      unfold JVm Sm6 at b ⊢
      rw [k54, k56, a.1.trans d.1, a.2.1.trans d.2.1, a.2.2.1.trans d.2.2.1, a.2.2.2.trans d.2.2.2]
      exact b
/-! who has an X, and a FORETOLD -/
def MD6 (σ s : SI) (hr : Int32) (n : Nat) : Prop :=
  (∀ k, k ≠ 52 → k ≠ 53 → s k = σ k) ∧ (∀ j, (∀ p, p < n → j ≠ 24 * hr.toInt.toNat + p) → s 52 j = σ 52 j ∧ s 53 j = σ 53 j) ∧
  ∀ p, p < n → rw6 s 52 hr p = σ 71 p ∧ (((σ 71 p).toInt ≠ 0 ∧ (rw6 σ 55 hr p).toInt ≠ 2000000000 ∧ rw6 s 53 hr p = 1) ∨ (((σ 71 p).toInt = 0 ∨ (rw6 σ 55 hr p).toInt = 2000000000) ∧ rw6 s 53 hr p = 0))
theorem MD6.st {σ : SI} {hr : Int32} : MD6 σ σ hr 0 := ⟨fun _ _ _ => rfl, fun _ _ => ⟨rfl, rfl⟩, fun p hp => absurd hp (Nat.not_lt_zero p)⟩
theorem MD6.go {σ s s1 s2 : SI} {hr v : Int32} {n i1 i2 : Nat} (h : MD6 σ s hr n) (h1 : i1 = 24 * hr.toInt.toNat + n) (h2 : i2 = 24 * hr.toInt.toNat + n) (e1 : s1 = up2 s 52 i1 (s 71 n)) (e2 : s2 = up2 s1 53 i2 v) (hv : ((s 71 n).toInt ≠ 0 ∧ (s 55 (24 * hr.toInt.toNat + n)).toInt ≠ 2000000000 ∧ v = 1) ∨ (((s 71 n).toInt = 0 ∨ (s 55 (24 * hr.toInt.toNat + n)).toInt = 2000000000) ∧ v = 0)) : MD6 σ s2 hr (n + 1) := by
  obtain ⟨a1, a2, a3⟩ := h
  subst h1
  subst h2
  rw [a1 71 (by decide) (by decide)] at e1 hv
  rw [a1 55 (by decide) (by decide)] at hv
  refine ⟨fun k a b => by rw [e2, up2_ne b, e1, up2_ne a]; exact a1 k a b, fun j hj => ?_, fun p hp => ?_⟩
  · have := hj n (by omega)
    rw [e2, up2_o (by decide), up2_n this, e1, up2_n this, up2_o (by decide)]
    exact a2 j (fun p hp => hj p (by omega))
  · by_cases z : p = n
    · subst z
      have x52 : rw6 s2 52 hr p = σ 71 p := by show s2 52 _ = _; rw [e2, up2_o (by decide), e1, up2_s]
      have x53 : rw6 s2 53 hr p = v := by show s2 53 _ = _; rw [e2, up2_s]
      rw [x52, x53]
      exact ⟨rfl, hv⟩
    · have x52 : rw6 s2 52 hr p = rw6 s 52 hr p := by show s2 52 _ = s 52 _; rw [e2, up2_o (by decide), e1, up2_n (by omega)]
      have x53 : rw6 s2 53 hr p = rw6 s 53 hr p := by show s2 53 _ = s 53 _; rw [e2, up2_n (by omega), e1, up2_o (by decide)]
      rw [x52, x53]
      exact a3 p (by omega)
def CL6 (σ s : SI) (ra : Int32) (rq : Nat) (v : Int32) : Prop :=
  ∃ (s1 s2 s3 s4 : SI) (x3 x7 x9 x11 : Int64), MA6 σ s1 ra rq 24 x3 ∧ MB6 s1 s2 (σ 35 29) (mo6 (s1 35 30) x3) 24 x7 x9 ∧ XR6 x7 x9 x11 ∧ MP7 s2 s3 (σ 35 29) v x7 x9 x11 ∧ MX6 s3 s4 (σ 35 29) x11 24 ∧ MD6 s4 s (σ 35 29) 24
/-! the hour's rows are cleared -/
def MZ6 (σ s : SI) (n : Nat) : Prop :=
  (∀ k, k ≠ 52 → k ≠ 53 → s k = σ k) ∧ (∀ j, (∀ p, p < n → j ≠ 24 * (σ 35 29).toInt.toNat + p) → s 52 j = σ 52 j ∧ s 53 j = σ 53 j) ∧ ∀ p, p < n → rw6 s 52 (σ 35 29) p = 0 ∧ rw6 s 53 (σ 35 29) p = 0
theorem MZ6.st {σ : SI} : MZ6 σ σ 0 := ⟨fun _ _ _ => rfl, fun _ _ => ⟨rfl, rfl⟩, fun p hp => absurd hp (Nat.not_lt_zero p)⟩
theorem MZ6.go {σ s s1 s2 : SI} {n i1 i2 : Nat} (h : MZ6 σ s n) (h1 : i1 = 24 * (σ 35 29).toInt.toNat + n) (h2 : i2 = 24 * (σ 35 29).toInt.toNat + n) (e1 : s1 = up2 s 52 i1 0) (e2 : s2 = up2 s1 53 i2 0) : MZ6 σ s2 (n + 1) := by
  obtain ⟨a1, a2, a3⟩ := h
  subst h1
  subst h2
  refine ⟨fun k a b => by rw [e2, up2_ne b, e1, up2_ne a]; exact a1 k a b, fun j hj => ?_, fun p hp => ?_⟩
  · have := hj n (by omega)
    rw [e2, up2_o (by decide), up2_n this, e1, up2_n this, up2_o (by decide)]
    exact a2 j (fun p hp => hj p (by omega))
  · by_cases z : p = n
    · subst z
      exact ⟨by show s2 52 _ = _; rw [e2, up2_o (by decide), e1, up2_s], by show s2 53 _ = _; rw [e2, up2_s]⟩
    · have x52 : rw6 s2 52 (σ 35 29) p = rw6 s 52 (σ 35 29) p := by show s2 52 _ = s 52 _; rw [e2, up2_o (by decide), e1, up2_n (by omega)]
      have x53 : rw6 s2 53 (σ 35 29) p = rw6 s 53 (σ 35 29) p := by show s2 53 _ = s 53 _; rw [e2, up2_n (by omega), e1, up2_o (by decide)]
      rw [x52, x53]
      exact a3 p (by omega)
def ZA6 (σ s5 : SI) (v : Int32) : Prop :=
  ∃ (s1 s4 : SI) (r : Int32), MZ6 σ s1 24 ∧ RTM s1 r ∧ s4 = up2 (up2 (up2 s1 59 (σ 35 29).toInt.toNat r) 60 (σ 35 29).toInt.toNat 0) 63 (σ 35 29).toInt.toNat (σ 35 30) ∧ ((r.toInt = -1 ∧ v = 0 ∧ s5 = s4) ∨ (r.toInt ≠ -1 ∧ CL6 s4 s5 r r.toInt.toNat v))
def ZC6 (σ s : SI) (v : Int32) : Prop := ∃ (s5 s6 : SI) (w : Int32), ZA6 σ s5 v ∧ s6 = up2 s5 35 33 w ∧ s = up2 (up2 s6 62 (σ 35 29).toInt.toNat w) 35 29 (σ 35 29 + 1)
def SU6 (σ : SI) : Prop := ∀ q, q < 24 → 0 ≤ (σ 36 q).toInt ∧ (σ 36 q).toInt ≤ 3 → 0 ≤ (σ 44 q).toInt → isMp σ q (σ 44 q).toInt
theorem go_s {σ s s2 : SI} {ra v : Int32} {p : Nat} (h : K6 σ s) (g : GO s s2 (nI p) ra (s 35 29) (s 35 29).toInt.toNat v) : GO σ s2 (nI p) ra (σ 35 29) (σ 35 29).toInt.toNat v := by
  rw [h.2] at g
  exact GO_x h g
theorem XB.ex {σ s : SI} (h : XB σ) (e : s 54 = σ 54) : XB s := by
  unfold XB
  rw [e]
  exact h
theorem Cl6.ex {σ s : SI} (h : Cl6 σ) (e36 : s 36 = σ 36) (e37 : s 37 = σ 37) (e38 : s 38 = σ 38) : Cl6 s := by
  unfold Cl6
  rw [e36, e37, e38]
  exact h
theorem mn_1 {w : Int32} {x5 : Int64} {m : Int} (h5 : x5.toInt = m) (h1 : 1 ≤ m) (c : x5.toInt < w.toInt) : x5.toInt32.toInt = min w.toInt m := by
  have := i32_hi w
  rw [l2iI rfl (by omega) (by omega)]
  omega
theorem mn_2 {w : Int32} {x5 : Int64} {m : Int} (h5 : x5.toInt = m) (c : w.toInt ≤ x5.toInt) : w.toInt = min w.toInt m := by
  omega
theorem mx_in {s3 sa sb : SI} {i : Nat} {A V : Int32} {x11 x15 : Int64} (e1 : sa = up2 s3 54 i A) (e2 : sb = up2 sa 56 i V) (eA : A = (x11 - (s3 58 i).toInt64).toInt32) (e15 : x15 = (sa 54 i).toInt64 - (sa 55 i).toInt64)
    (hV : (30000 < x15.toInt ∧ V = 30000) ∨ (x15.toInt < -30000 ∧ V = -30000) ∨ ((-30000 ≤ x15.toInt ∧ x15.toInt ≤ 30000) ∧ V = x15.toInt32)) : ∃ a9 v9, sb = up2 (up2 s3 54 i a9) 56 i v9 ∧ a9 = (x11 - (s3 58 i).toInt64).toInt32 ∧ cv6 v9 (a9.toInt64 - (s3 55 i).toInt64) := by
  refine ⟨A, V, by rw [e2, e1], eA, ?_⟩
  have a : sa 54 i = A := by rw [e1, up2_s]
  have b : sa 55 i = s3 55 i := by rw [e1, up2_o (by decide)]
  rw [a, b] at e15
  rw [← e15]
  show V.toInt = max (-30000) (min 30000 x15.toInt)
  rcases hV with ⟨h1, h2⟩ | ⟨h1, h2⟩ | ⟨h1, h2⟩
  · rw [h2, show (30000 : Int32).toInt = 30000 from by decide]
    omega
  · rw [h2, show (-30000 : Int32).toInt = -30000 from by decide]
    omega
  · rw [h2, l2iI rfl (by omega) (by omega)]
    omega
theorem cl_b {σ s1 s2 s5 s3 s3b : SI} {ra x2 a v : Int32} {rq n : Nat} {x3 x7 x9 x11 y7 y9 : Int64} {m : Int} {k2 : Nat} (hA : MA6 σ s1 ra rq 24 x3) (hB : MB6 s1 s2 (σ 35 29) m k2 x7 x9) (hP : MP7 s2 s5 (σ 35 29) x2 y7 y9 x11) (hX : MX6 s5 s3 (σ 35 29) x11 n) (e : s3b = up2 (up2 s3 54 (24 * (σ 35 29).toInt.toNat + n) a) 56 (24 * (σ 35 29).toInt.toNat + n) v) (hn : n < 24) (c : (s3 71 n).toInt ≠ 0) :
    TkM σ n ∧ s3b 44 n = σ 44 n ∧ s3b 38 = σ 38 ∧ s3b 43 = σ 43 ∧ s3b 35 29 = σ 35 29 ∧ ∀ j, j < 24 * (σ 35 29).toInt.toNat → s3b 52 j = σ 52 j ∧ s3b 53 j = σ 53 j ∧ s3b 56 j = σ 56 j := by
  have gb : ∀ k, k ≠ 54 → k ≠ 56 → s3b k = s3 k := fun k a b => by rw [e, up2_ne b, up2_ne a]
  have f5 : ∀ k, k ≠ 35 → k ≠ 55 → k ≠ 57 → k ≠ 58 → ¬ (68 ≤ k ∧ k ≤ 71) → k ≠ 60 → k ≠ 61 → k ≠ 64 → s5 k = σ k := fun k a b c d f g h i => by rw [hP.1 k g h i, hB.1 k c, hA.1 k a b c d f]
  have f3 : ∀ k, k ≠ 35 → k ≠ 41 → ¬ (44 ≤ k ∧ k ≤ 46) → k ≠ 54 → k ≠ 56 → ¬ (65 ≤ k ∧ k ≤ 67) → k ≠ 55 → k ≠ 57 → k ≠ 58 → ¬ (68 ≤ k ∧ k ≤ 71) → k ≠ 60 → k ≠ 61 → k ≠ 64 → s3 k = σ k := fun k a b c d f g h i j l m n o => by
    rw [hX.1 k a b c d f g]
    exact f5 k a h i j l m n o
  have t71 : s3 71 = s1 71 := by rw [hX.1 71 (by decide) (by decide) (by omega) (by decide) (by decide) (by omega), hP.1 71 (by decide) (by decide) (by decide), hB.1 71 (by decide)]
  rw [t71] at c
  refine ⟨?_, ?_, ?_, ?_, ?_, fun j hj => ⟨?_, ?_, ?_⟩⟩
  · rcases hA.2.2.2.1 n hn with ⟨-, h, -⟩ | ⟨h, -⟩
    · exact h.1
    · rw [h] at c
      exact absurd (by decide) c
  · rw [gb 44 (by decide) (by decide), (hX.2.2.2.1 n (Nat.le_refl n)).2.1, f5 44 (by decide) (by decide) (by decide) (by decide) (by omega) (by decide) (by decide) (by decide)]
  · rw [gb 38 (by decide) (by decide), f3 38 (by decide) (by decide) (by omega) (by decide) (by decide) (by omega) (by decide) (by decide) (by decide) (by omega) (by decide) (by decide) (by decide)]
  · rw [gb 43 (by decide) (by decide), f3 43 (by decide) (by decide) (by omega) (by decide) (by decide) (by omega) (by decide) (by decide) (by decide) (by omega) (by decide) (by decide) (by decide)]
  · rw [gb 35 (by decide) (by decide), hX.2.1 29 (by decide), hP.1 35 (by decide) (by decide) (by decide), hB.1 35 (by decide), hA.2.1 29 (by decide) (by decide) (by decide)]
  · rw [gb 52 (by decide) (by decide), f3 52 (by decide) (by decide) (by omega) (by decide) (by decide) (by omega) (by decide) (by decide) (by decide) (by omega) (by decide) (by decide) (by decide)]
  · rw [gb 53 (by decide) (by decide), f3 53 (by decide) (by decide) (by omega) (by decide) (by decide) (by omega) (by decide) (by decide) (by decide) (by omega) (by decide) (by decide) (by decide)]
  · rw [e, up2_n (by omega), up2_o (by decide), (hX.2.2.1 j (fun p hp => by omega)).2, f5 56 (by decide) (by decide) (by decide) (by decide) (by omega) (by decide) (by decide) (by decide)]
theorem hsu_b {σ s : SI} {n : Nat} (hS : SU6 σ) (hk : KM σ) (hn : n < 24) (hw : 0 ≤ (σ 35 29).toInt) (tk : TkM σ n) (e44 : s 44 n = σ 44 n) (e43 : s 43 = σ 43) (e29 : s 35 29 = σ 35 29) (he : ∀ j, j < 24 * (σ 35 29).toInt.toNat → s 52 j = σ 52 j ∧ s 53 j = σ 53 j ∧ s 56 j = σ 56 j) : (s 44 n).toInt = (s 35 29).toInt - 1 → isMp s n ((s 35 29).toInt - 1) := by
  intro c
  rw [e44, e29] at c
  rw [e29]
  have a := hk.2.1 n
  have b := hS n hn ⟨tk.1, tk.2.1⟩ (by omega)
  rw [c] at b
  exact ((pM_now hn e43 e29 he).2 _).mpr b
theorem z4_fr {σ s1 s4 : SI} {r x : Int32} {N : Nat} (hZ : MZ6 σ s1 24) (e : s4 = up2 (up2 (up2 s1 59 N r) 60 N 0) 63 N x) : (∀ k, k ≠ 52 → k ≠ 53 → k ≠ 59 → k ≠ 60 → k ≠ 63 → s4 k = σ k) ∧ ∀ j, j < 24 * (σ 35 29).toInt.toNat → s4 52 j = σ 52 j ∧ s4 53 j = σ 53 j := by
  have g : ∀ k, k ≠ 59 → k ≠ 60 → k ≠ 63 → s4 k = s1 k := fun k a b c => by rw [e, up2_ne c, up2_ne b, up2_ne a]
  exact ⟨fun k a b c d f => (g k c d f).trans (hZ.1 k a b), fun j hj => by
    rw [g 52 (by decide) (by decide) (by decide), g 53 (by decide) (by decide) (by decide)]
    exact hZ.2.1 j (fun p hp => by omega)⟩
theorem SU6.z {σ s : SI} (h : SU6 σ) (f : (∀ k, k ≠ 52 → k ≠ 53 → k ≠ 59 → k ≠ 60 → k ≠ 63 → s k = σ k) ∧ ∀ j, j < 24 * (σ 35 29).toInt.toNat → s 52 j = σ 52 j ∧ s 53 j = σ 53 j) : SU6 s := by
  have g := f.1
  intro q hq hk h0
  rw [g 36 (by decide) (by decide) (by decide) (by decide) (by decide)] at hk
  rw [g 44 (by decide) (by decide) (by decide) (by decide) (by decide)] at h0 ⊢
  have e56 : s 56 = σ 56 := g 56 (by decide) (by decide) (by decide) (by decide) (by decide)
  exact ((pM_now hq (g 43 (by decide) (by decide) (by decide) (by decide) (by decide)) (by rw [g 35 (by decide) (by decide) (by decide) (by decide) (by decide)]) (fun j hj => ⟨(f.2 j hj).1, (f.2 j hj).2, by rw [e56]⟩)).2 _).mpr (h q hq hk h0)
theorem zc_mk {σ s5 s6 s7 s8 : SI} {v w : Int32} (h : ZA6 σ s5 v) (e6 : s6 = up2 s5 35 33 w) (e7 : s7 = up2 s6 62 (s5 35 29).toInt.toNat (s6 35 33)) (e8 : s8 = up2 s7 35 29 (s7 35 29 + 1)) (e29 : (s5 35 29).toInt = (σ 35 29).toInt) : ZC6 σ s8 v := by
  have a : s6 35 33 = w := by rw [e6, up2_s]
  have e30 : s5 35 29 = σ 35 29 := Int32.toInt_inj.mp e29
  rw [e30] at e7
  have b : s7 35 29 = σ 35 29 := by rw [e7, up2_o (by decide), e6, up2_n (by decide)]; exact e30
  rw [a] at e7
  rw [b] at e8
  exact ⟨s5, s6, w, h, e6, by rw [e8, e7]⟩
abbrev po7_X10_closes (σ : SI) (τ : SL) (ra : Int32) (rq : Nat) : Int32 → SI × SL → Prop := fun v u => ((MRel (fun k => (41 ≤ k ∧ k ≤ 46 ∧ k ≠ 42 ∧ k ≠ 43) ∨ (52 ≤ k ∧ k ≤ 69) ∨ k = 71) (fun j => j = 37 ∨ j = 41 ∨ j = 43 ∨ j = 44) σ u.1) ∧ (KM u.1) ∧ (CntR (PM σ ra) (QM σ ra) 0 24 v) ∧ (CL6 σ u.1 ra rq v))
set_option maxRecDepth 100000 in
set_option maxHeartbeats 4000000 in
theorem c7_X10_closes (l : Launch) {G : Gx} {A : Nat → Prop} (hG : GOk G A) (σ : SI) (τ : SL) (ra : Int32) (rq : Nat) (hp_rq : ra.toInt.toNat = rq) (hnw : 0 ≤ (σ 35 29).toInt ∧ (σ 35 29).toInt ≤ 200) (hra : 0 ≤ ra.toInt ∧ ra.toInt < 24) (hln : LnM σ) (hcl : ClM σ) (hkm : KM σ) (hxb : XB σ) (hc6 : Cl6 σ) (hsq : SU6 σ) : MI l G A 6 yX10_closes cX10_closes 17 (some .int) [.ref (G.2.1 35), .int ra] (σ, τ) (po7_X10_closes σ τ ra rq) := by
  refine met_of (own := RX10) (by decide +kernel) rfl [(0, .ref (G.2.1 35)), (1, .int ra)] rfl (Nat.le_of_ble_eq_true rfl) ?_
  intro p e s m args below meth c ls hC hK hR hl
  have hS : va_S A s.heap s.heap [] := va_S.rf
  refine lv_iconst (v := 0) hC.x hC.b dX10_closes_0 (by decide) ?_
  refine lv_istore_n (lv' := [(2, .int (0 : Int32)), (0, .ref (G.2.1 35)), (1, .int ra)]) hC.x hC.b dX10_closes_1 rfl hl (by decide) rfl (fun ls hl => ?_)
  refine lv_lconst (v := 0) hC.x hC.b dX10_closes_2 (by decide) ?_
  refine lv_lstore_n (lv' := [(3, .long (0 : Int64)), (2, .int (0 : Int32)), (0, .ref (G.2.1 35)), (1, .int ra)]) hC.x hC.b dX10_closes_3 rfl hl (by decide) rfl (fun ls hl => ?_)
  refine lv_iconst (v := 0) hC.x hC.b dX10_closes_4 (by decide) ?_
  refine lv_istore (lv' := [(5, .int (0 : Int32)), (3, .long (0 : Int64)), (2, .int (0 : Int32)), (0, .ref (G.2.1 35)), (1, .int ra)]) hC.x hC.b dX10_closes_5 hl (by decide) rfl (fun ls hl => ?_)
  have L_7 : ∀ (F : Nat) (x2 : Int32) (x3 : Int64) (n : Nat) (s1 : SI) (t1 : SL), (24 - n) < F → (KM s1) → (n ≤ 24) → (CntR (PM σ ra) (QM σ ra) 0 n x2) → (MA6 σ s1 ra rq n x3) → (MRel (fun k => (41 ≤ k ∧ k ≤ 46 ∧ k ≠ 42 ∧ k ≠ 43) ∨ (52 ≤ k ∧ k ≤ 69) ∨ k = 71) (fun j => j = 37 ∨ j = 41 ∨ j = 43 ∨ j = 44) σ s1) → ∀ (H : Heap) (locs : List Loc) (ls : Array Slot), RepH G s1 t1 H → va_S A s.heap H locs → lv_has ls 17 [(0, .ref (G.2.1 35)), (1, .int ra), (2, .int x2), (3, .long x3), (5, .int (nI n))] → W p l e (rmD 6) s m args below meth c H locs 0 0 (MQ below (va_Qi (po7_X10_closes σ τ ra rq) (BU G) A) args s 0 0 A) (F0 m 7 ls []) := by
    intro F
    induction F with
    | zero => intro x2 x3 n s1 t1 hm; exact absurd hm (Nat.not_lt_zero _)
    | succ F ih_7 =>
      intro x2 x3 n s1 t1 hm_7 hi0_7 hi1_7 hi2_7 hi3_7 hi4_7 H locs ls hR hS hl
      have hnI := nI_T n (by omega)
      have h29 : (s1 35 29).toInt = (σ 35 29).toInt := congrArg Int32.toInt (hi4_7.2 29 (by omega))
      refine lv_iload hC.x hC.b dX10_closes_7 (lv_at hl 4 rfl) ?_
      refine lv_bipush (v := 24) hC.x hC.b dX10_closes_9 (by decide) ?_
      refine bi_ge (tgt := 166) (a := (n : Int)) (b := 24) hC.x hC.b (nI_T n (by omega)) rfl dX10_closes_11 (by decide) (fun c_1 => ?_) (fun c_1 => ?_)
      · skip
        have L_194 : ∀ (x5 : Int64), (x5.toInt = (mo6 (s1 35 30) x3)) → ∀ (H : Heap) (locs : List Loc) (ls : Array Slot), RepH G s1 t1 H → va_S A s.heap H locs → lv_has ls 17 [(0, .ref (G.2.1 35)), (1, .int ra), (2, .int x2), (5, .long x5)] → W p l e (rmD 6) s m args below meth c H locs 0 0 (MQ below (va_Qi (po7_X10_closes σ τ ra rq) (BU G) A) args s 0 0 A) (F0 m 194 ls []) := by
          intro x5 hi0_194 H locs ls hR hS hl
          have hMA : MA6 σ s1 ra rq 24 x3 := (show n = 24 by omega) ▸ hi3_7
          refine lv_lconst (v := 0) hC.x hC.b dX10_closes_194 (by decide) ?_
          refine lv_lstore (lv' := [(7, .long (0 : Int64)), (0, .ref (G.2.1 35)), (1, .int ra), (2, .int x2), (5, .long x5)]) hC.x hC.b dX10_closes_195 hl (by decide) rfl (fun ls hl => ?_)
          refine lv_lconst (v := 0) hC.x hC.b dX10_closes_197 (by decide) ?_
          refine lv_lstore (lv' := [(9, .long (0 : Int64)), (7, .long (0 : Int64)), (0, .ref (G.2.1 35)), (1, .int ra), (2, .int x2), (5, .long x5)]) hC.x hC.b dX10_closes_198 hl (by decide) rfl (fun ls hl => ?_)
          refine lv_iconst (v := 0) hC.x hC.b dX10_closes_200 (by decide) ?_
          refine lv_istore (lv' := [(11, .int (0 : Int32)), (9, .long (0 : Int64)), (7, .long (0 : Int64)), (0, .ref (G.2.1 35)), (1, .int ra), (2, .int x2), (5, .long x5)]) hC.x hC.b dX10_closes_201 hl (by decide) rfl (fun ls hl => ?_)
          have L_203 : ∀ (F : Nat) (x7 : Int64) (x9 : Int64) (n2 : Nat) (s2 : SI) (t2 : SL), (24 - n2) < F → (KM s2) → (n2 ≤ 24) → (MB6 s1 s2 (σ 35 29) (mo6 (s1 35 30) x3) n2 x7 x9) → (MRel (fun k => (41 ≤ k ∧ k ≤ 46 ∧ k ≠ 42 ∧ k ≠ 43) ∨ (52 ≤ k ∧ k ≤ 69) ∨ k = 71) (fun j => j = 37 ∨ j = 41 ∨ j = 43 ∨ j = 44) σ s2) → ∀ (H : Heap) (locs : List Loc) (ls : Array Slot), RepH G s2 t2 H → va_S A s.heap H locs → lv_has ls 17 [(0, .ref (G.2.1 35)), (1, .int ra), (2, .int x2), (5, .long x5), (7, .long x7), (9, .long x9), (11, .int (nI n2))] → W p l e (rmD 6) s m args below meth c H locs 0 0 (MQ below (va_Qi (po7_X10_closes σ τ ra rq) (BU G) A) args s 0 0 A) (F0 m 203 ls []) := by
            intro F
            induction F with
            | zero => intro x7 x9 n2 s2 t2 hm; exact absurd hm (Nat.not_lt_zero _)
            | succ F ih_203 =>
              intro x7 x9 n2 s2 t2 hm_203 hi0_203 hi1_203 hi2_203 hi3_203 H locs ls hR hS hl
              have hnI2 := nI_T n2 (by omega)
              refine lv_iload hC.x hC.b dX10_closes_203 (lv_at hl 6 rfl) ?_
              refine lv_bipush (v := 24) hC.x hC.b dX10_closes_205 (by decide) ?_
              refine bi_ge (tgt := 329) (a := (n2 : Int)) (b := 24) hC.x hC.b (nI_T n2 (by omega)) rfl dX10_closes_207 (by decide) (fun c_2 => ?_) (fun c_2 => ?_)
              · skip
                have L_349 : ∀ (x11 : Int64), (XR6 x7 x9 x11) → ∀ (H : Heap) (locs : List Loc) (ls : Array Slot), RepH G s2 t2 H → va_S A s.heap H locs → lv_has ls 17 [(0, .ref (G.2.1 35)), (1, .int ra), (2, .int x2), (7, .long x7), (9, .long x9), (11, .long x11)] → W p l e (rmD 6) s m args below meth c H locs 0 0 (MQ below (va_Qi (po7_X10_closes σ τ ra rq) (BU G) A) args s 0 0 A) (F0 m 349 ls []) := by
                  intro x11 hi0_349 H locs ls hR hS hl
                  have L_400 : ∀ (s5 : SI), (KM s5) → (MP7 s2 s5 (σ 35 29) x2 x7 x9 x11) → (MRel (fun k => (41 ≤ k ∧ k ≤ 46 ∧ k ≠ 42 ∧ k ≠ 43) ∨ (52 ≤ k ∧ k ≤ 69) ∨ k = 71) (fun j => j = 37 ∨ j = 41 ∨ j = 43 ∨ j = 44) σ s5) → ∀ (H : Heap) (locs : List Loc) (ls : Array Slot), RepH G s5 t2 H → va_S A s.heap H locs → lv_has ls 17 [(0, .ref (G.2.1 35)), (1, .int ra), (2, .int x2), (11, .long x11)] → W p l e (rmD 6) s m args below meth c H locs 0 0 (MQ below (va_Qi (po7_X10_closes σ τ ra rq) (BU G) A) args s 0 0 A) (F0 m 400 ls []) := by
                    intro s5 hi0_400 hi1_400 hi2_400 H locs ls hR hS hl
                    refine lv_iconst (v := 0) hC.x hC.b dX10_closes_400 (by decide) ?_
                    refine lv_istore (lv' := [(13, .int (0 : Int32)), (0, .ref (G.2.1 35)), (1, .int ra), (2, .int x2), (11, .long x11)]) hC.x hC.b dX10_closes_401 hl (by decide) rfl (fun ls hl => ?_)
                    have L_403 : ∀ (F : Nat) (n3 : Nat) (s3 : SI) (t3 : SL), (24 - n3) < F → (KM s3) → (n3 ≤ 24) → (MX6 s5 s3 (σ 35 29) x11 n3) → (MRel (fun k => (41 ≤ k ∧ k ≤ 46 ∧ k ≠ 42 ∧ k ≠ 43) ∨ (52 ≤ k ∧ k ≤ 69) ∨ k = 71) (fun j => j = 37 ∨ j = 41 ∨ j = 43 ∨ j = 44) σ s3) → ∀ (H : Heap) (locs : List Loc) (ls : Array Slot), RepH G s3 t3 H → va_S A s.heap H locs → lv_has ls 17 [(0, .ref (G.2.1 35)), (1, .int ra), (2, .int x2), (11, .long x11), (13, .int (nI n3))] → W p l e (rmD 6) s m args below meth c H locs 0 0 (MQ below (va_Qi (po7_X10_closes σ τ ra rq) (BU G) A) args s 0 0 A) (F0 m 403 ls []) := by
                      intro F
                      induction F with
                      | zero => intro n3 s3 t3 hm; exact absurd hm (Nat.not_lt_zero _)
                      | succ F ih_403 =>
                        intro n3 s3 t3 hm_403 hi0_403 hi1_403 hi2_403 hi3_403 H locs ls hR hS hl
                        have hnI3 := nI_T n3 (by omega)
                        refine lv_iload hC.x hC.b dX10_closes_403 (lv_at hl 4 rfl) ?_
                        refine lv_bipush (v := 24) hC.x hC.b dX10_closes_405 (by decide) ?_
                        refine bi_ge (tgt := 554) (a := (n3 : Int)) (b := 24) hC.x hC.b (nI_T n3 (by omega)) rfl dX10_closes_407 (by decide) (fun c_3 => ?_) (fun c_3 => ?_)
                        · skip
                          refine lv_iconst (v := 0) hC.x hC.b dX10_closes_554 (by decide) ?_
                          refine lv_istore (lv' := [(13, .int (0 : Int32)), (0, .ref (G.2.1 35)), (1, .int ra), (2, .int x2), (11, .long x11)]) hC.x hC.b dX10_closes_555 hl (by decide) rfl (fun ls hl => ?_)
                          have L_557 : ∀ (F : Nat) (n4 : Nat) (s4 : SI) (t4 : SL), (24 - n4) < F → (KM s4) → (n4 ≤ 24) → (MD6 s3 s4 (σ 35 29) n4) → (MRel (fun k => (41 ≤ k ∧ k ≤ 46 ∧ k ≠ 42 ∧ k ≠ 43) ∨ (52 ≤ k ∧ k ≤ 69) ∨ k = 71) (fun j => j = 37 ∨ j = 41 ∨ j = 43 ∨ j = 44) σ s4) → ∀ (H : Heap) (locs : List Loc) (ls : Array Slot), RepH G s4 t4 H → va_S A s.heap H locs → lv_has ls 17 [(0, .ref (G.2.1 35)), (1, .int ra), (2, .int x2), (13, .int (nI n4))] → W p l e (rmD 6) s m args below meth c H locs 0 0 (MQ below (va_Qi (po7_X10_closes σ τ ra rq) (BU G) A) args s 0 0 A) (F0 m 557 ls []) := by
                            intro F
                            induction F with
                            | zero => intro n4 s4 t4 hm; exact absurd hm (Nat.not_lt_zero _)
                            | succ F ih_557 =>
                              intro n4 s4 t4 hm_557 hi0_557 hi1_557 hi2_557 hi3_557 H locs ls hR hS hl
                              have hnI4 := nI_T n4 (by omega)
                              refine lv_iload hC.x hC.b dX10_closes_557 (lv_at hl 3 rfl) ?_
                              refine lv_bipush (v := 24) hC.x hC.b dX10_closes_559 (by decide) ?_
                              refine bi_ge (tgt := 642) (a := (n4 : Int)) (b := 24) hC.x hC.b (nI_T n4 (by omega)) rfl dX10_closes_561 (by decide) (fun c_4 => ?_) (fun c_4 => ?_)
                              · skip
                                refine lv_iload_n hC.x hC.b dX10_closes_642 rfl (lv_at hl 2 rfl) ?_
                                exact reti hC hK hR hS (⟨by exact hi3_557, by exact hi0_557, by (have e9 : n = 24 := by omega); exact e9 ▸ hi2_7, by (try dsimp only); exact ⟨s1, s2, s5, s3, x3, x7, x9, x11, hMA, (show n2 = 24 by omega) ▸ hi2_203, hi0_349, hi1_400, (show n3 = 24 by omega) ▸ hi2_403, (show n4 = 24 by omega) ▸ hi2_557⟩⟩) dX10_closes_643
                              · skip
                                refine lv_aload_n hC.x hC.b dX10_closes_564 rfl (lv_at hl 0 rfl) ?_
                                refine rget hC hK hR (ct_model G _ _) rfl uin_X10 16 (by decide) TF_X10_59 rfl dX10_closes_565 ?_
                                refine lv_aload_n hC.x hC.b dX10_closes_568 rfl (lv_at hl 0 rfl) ?_
                                refine lv_aload_n hC.x hC.b dX10_closes_569 rfl (lv_at hl 0 rfl) ?_
                                refine rget hC hK hR (ct_model G _ _) rfl uin_X10 29 (by decide) TF_X10_137 rfl dX10_closes_570 ?_
                                have rd_5 : (s4 35 29).toInt = (σ 35 29).toInt := congrArg Int32.toInt (show s4 35 29 = σ 35 29 from hi3_557.2 29 (by first | omega | (dsimp only; omega)))
                                refine lv_iload hC.x hC.b dX10_closes_573 (lv_at hl 3 rfl) ?_
                                have av_6 : (nI n4).toInt = (n4 : Int) := (nI_T n4 (by omega))
                                refine goip (runV (As := [.int (s4 35 29), .int (nI n4)]) (rest := [.ref (G.2.1 52)]) hC hK hR hl.1 (c_X10_at l hG s4 t4 (s4 35 29) (((s4 35 29).toInt).toNat) (by first | rfl | (rw [show (s4 35 29).toInt = (s4 35 29).toInt from rfl]; done) | (rw [show (s4 35 29).toInt = (s4 35 29).toInt from rfl]; exact rfl)) (nI n4) n4 (by first | rfl | (rw [show (nI n4).toInt = (n4 : Int) from (nI_T n4 (by omega))]; done) | (rw [show (nI n4).toInt = (n4 : Int) from (nI_T n4 (by omega))]; exact (Int.toNat_natCast _))) (by omega) (by omega)) (call_b hC.ts TC_X10_at TN_X10 TM_X10_140 hd_X10_at ⟨Nat.le_of_ble_eq_true rfl, Nat.le_of_ble_eq_true rfl⟩) TI_X10_at TS_X10_at (ct_model G _ _) rfl rfl rfl (Nat.le_of_ble_eq_true rfl) dX10_closes_575 ⟨Nat.le_of_ble_eq_true rfl, Nat.le_of_ble_eq_true rfl⟩) hS (fun v_7 H locs w_8 hR hS => ?_)
                                subst w_8
                                rw [show s4 35 29 = (σ 35 29) from (show s4 35 29 = σ 35 29 from hi3_557.2 29 (by first | omega | (dsimp only; omega)))]
                                refine lv_aload_n hC.x hC.b dX10_closes_578 rfl (lv_at hl 0 rfl) ?_
                                refine rget hC hK hR (ct_model G _ _) rfl uin_X10 48 (by decide) TF_X10_126 rfl dX10_closes_579 ?_
                                refine lv_iload hC.x hC.b dX10_closes_582 (lv_at hl 3 rfl) ?_
                                refine zald hC hK hR (ct_m_present G _ _) (nI_T n4 (by omega)) (by omega) (by omega) (Int.toNat_natCast _) dX10_closes_584 ?_
                                have hb5 := (show KM s4 from hi0_557).2.2.1 n4
                                refine zast hC hK hG hR hS (fun _ => ct_m_hasX G _ _) (nI_T _ (by omega)) (by omega) (by omega) (Int.toNat_natCast _) (by first | assumption | exact Or.inl rfl | exact Or.inr rfl) dX10_closes_585 (fun s_9 es_10 H locs hR hS => ?_)
                                have L_636 : ∀ (s4b : SI), (KM s4b) → (MD6 s3 s4b (σ 35 29) (n4 + 1)) → (MRel (fun k => (41 ≤ k ∧ k ≤ 46 ∧ k ≠ 42 ∧ k ≠ 43) ∨ (52 ≤ k ∧ k ≤ 69) ∨ k = 71) (fun j => j = 37 ∨ j = 41 ∨ j = 43 ∨ j = 44) σ s4b) → ∀ (H : Heap) (locs : List Loc) (ls : Array Slot), RepH G s4b t4 H → va_S A s.heap H locs → lv_has ls 17 [(0, .ref (G.2.1 35)), (1, .int ra), (2, .int x2), (13, .int (nI n4))] → W p l e (rmD 6) s m args below meth c H locs 0 0 (MQ below (va_Qi (po7_X10_closes σ τ ra rq) (BU G) A) args s 0 0 A) (F0 m 636 ls []) := by
                                  intro s4b hi0_636 hi1_636 hi2_636 H locs ls hR hS hl
                                  refine lv_iinc (v := nI (n4 + 1)) (lv' := [(13, .int (nI (n4 + 1))), (0, .ref (G.2.1 35)), (1, .int ra), (2, .int x2)]) hC.x hC.b dX10_closes_636 hl (k := 3) rfl (nI_succ _).symm (by decide) rfl (fun ls hl => ?_)
                                  refine lv_goto (tgt := 557) hC.x hC.b dX10_closes_639 (by decide) ?_
                                  exact ih_557 (n4 + 1) s4b t4 (by omega) (by exact hi0_636) (by first | omega | assumption) (by exact hi1_636) hi2_636 _ _ _ hR hS (lv_sub hl [1, 2, 3, 0] rfl)
                                refine lv_aload_n hC.x hC.b dX10_closes_586 rfl (lv_at hl 0 rfl) ?_
                                refine rget hC hK hR (ct_model G _ _) rfl uin_X10 17 (by decide) TF_X10_62 rfl dX10_closes_587 ?_
                                refine lv_aload_n hC.x hC.b dX10_closes_590 rfl (lv_at hl 0 rfl) ?_
                                refine lv_aload_n hC.x hC.b dX10_closes_591 rfl (lv_at hl 0 rfl) ?_
                                refine rget hC hK hR (ct_model G _ _) rfl uin_X10 29 (by decide) TF_X10_137 rfl dX10_closes_592 ?_
                                have rd_11 : (s_9 35 29).toInt = (σ 35 29).toInt := congrArg Int32.toInt (Eq.trans (show s_9 35 29 = s4 35 29 from (by rw [es_10]; exact up2_o (by omega))) (show s4 35 29 = σ 35 29 from hi3_557.2 29 (by first | omega | (dsimp only; omega))))
                                refine lv_iload hC.x hC.b dX10_closes_595 (lv_at hl 3 rfl) ?_
                                have av_12 : (nI n4).toInt = (n4 : Int) := (nI_T n4 (by omega))
                                refine goip (runV (As := [.int (s_9 35 29), .int (nI n4)]) (rest := [.ref (G.2.1 53)]) hC hK hR hl.1 (c_X10_at l hG s_9 t4 (s_9 35 29) (((s_9 35 29).toInt).toNat) (by first | rfl | (rw [show (s_9 35 29).toInt = (s_9 35 29).toInt from rfl]; done) | (rw [show (s_9 35 29).toInt = (s_9 35 29).toInt from rfl]; exact rfl)) (nI n4) n4 (by first | rfl | (rw [show (nI n4).toInt = (n4 : Int) from (nI_T n4 (by omega))]; done) | (rw [show (nI n4).toInt = (n4 : Int) from (nI_T n4 (by omega))]; exact (Int.toNat_natCast _))) (by omega) (by omega)) (call_b hC.ts TC_X10_at TN_X10 TM_X10_140 hd_X10_at ⟨Nat.le_of_ble_eq_true rfl, Nat.le_of_ble_eq_true rfl⟩) TI_X10_at TS_X10_at (ct_model G _ _) rfl rfl rfl (Nat.le_of_ble_eq_true rfl) dX10_closes_597 ⟨Nat.le_of_ble_eq_true rfl, Nat.le_of_ble_eq_true rfl⟩) hS (fun v_13 H locs w_14 hR hS => ?_)
                                subst w_14
                                rw [show s_9 35 29 = (σ 35 29) from (Eq.trans (show s_9 35 29 = s4 35 29 from (by rw [es_10]; exact up2_o (by omega))) (show s4 35 29 = σ 35 29 from hi3_557.2 29 (by first | omega | (dsimp only; omega))))]
                                refine lv_aload_n hC.x hC.b dX10_closes_600 rfl (lv_at hl 0 rfl) ?_
                                refine rget hC hK hR (ct_model G _ _) rfl uin_X10 48 (by decide) TF_X10_126 rfl dX10_closes_601 ?_
                                refine lv_iload hC.x hC.b dX10_closes_604 (lv_at hl 3 rfl) ?_
                                refine zald hC hK hR (ct_m_present G _ _) (nI_T n4 (by omega)) (by omega) (by omega) (Int.toNat_natCast _) dX10_closes_606 ?_
                                have rd_15 : (s_9 71 n4).toInt = (s4 71 n4).toInt := congrArg Int32.toInt (show s_9 71 n4 = s4 71 n4 from (by rw [es_10]; exact up2_o (by omega)))
                                refine bz_eq (tgt := 634) (a := (s_9 71 n4).toInt) (b := 0) hC.x hC.b rfl rfl dX10_closes_607 (by decide) (fun c_16 => ?_) (fun c_16 => ?_)
                                · skip
                                  refine lv_iconst (v := 0) hC.x hC.b dX10_closes_634 (by decide) ?_
                                  refine zast hC hK hG hR hS (fun _ => ct_m_hasF G _ _) (nI_T _ (by omega)) (by omega) (by omega) (Int.toNat_natCast _) (Or.inl rfl) dX10_closes_635 (fun s_17 es_18 H locs hR hS => ?_)
                                  exact L_636 s_17 (by exact (by rw [es_18]; exact KM.up (by rw [es_10]; exact KM.up hi0_557 (by omega)) (by omega))) (by exact MD6.go hi2_557 rfl rfl es_10 es_18 (by first | exact Or.inl ⟨by omega, by omega, rfl⟩ | exact Or.inr ⟨by omega, rfl⟩)) (by rw [es_18]; exact MRel.up ((by rw [es_10]; exact MRel.up (hi3_557) (by omega) (by first | omega | (dsimp only; omega)))) (by omega) (by first | omega | (dsimp only; omega))) _ _ _ hR hS (lv_sub hl [0, 1, 2, 3] rfl)
                                · skip
                                  refine lv_aload_n hC.x hC.b dX10_closes_610 rfl (lv_at hl 0 rfl) ?_
                                  refine rget hC hK hR (ct_model G _ _) rfl uin_X10 19 (by decide) TF_X10_68 rfl dX10_closes_611 ?_
                                  refine lv_aload_n hC.x hC.b dX10_closes_614 rfl (lv_at hl 0 rfl) ?_
                                  refine lv_aload_n hC.x hC.b dX10_closes_615 rfl (lv_at hl 0 rfl) ?_
                                  refine rget hC hK hR (ct_model G _ _) rfl uin_X10 29 (by decide) TF_X10_137 rfl dX10_closes_616 ?_
                                  have rd_19 : (s_9 35 29).toInt = (σ 35 29).toInt := congrArg Int32.toInt (Eq.trans (show s_9 35 29 = s4 35 29 from (by rw [es_10]; exact up2_o (by omega))) (show s4 35 29 = σ 35 29 from hi3_557.2 29 (by first | omega | (dsimp only; omega))))
                                  refine lv_iload hC.x hC.b dX10_closes_619 (lv_at hl 3 rfl) ?_
                                  have av_20 : (nI n4).toInt = (n4 : Int) := (nI_T n4 (by omega))
                                  refine goip (runV (As := [.int (s_9 35 29), .int (nI n4)]) (rest := [.ref (G.2.1 55), .int (nI (24 * (σ 35 29).toInt.toNat + n4)), .ref (G.2.1 53)]) hC hK hR hl.1 (c_X10_at l hG s_9 t4 (s_9 35 29) (((s_9 35 29).toInt).toNat) (by first | rfl | (rw [show (s_9 35 29).toInt = (s_9 35 29).toInt from rfl]; done) | (rw [show (s_9 35 29).toInt = (s_9 35 29).toInt from rfl]; exact rfl)) (nI n4) n4 (by first | rfl | (rw [show (nI n4).toInt = (n4 : Int) from (nI_T n4 (by omega))]; done) | (rw [show (nI n4).toInt = (n4 : Int) from (nI_T n4 (by omega))]; exact (Int.toNat_natCast _))) (by omega) (by omega)) (call_b hC.ts TC_X10_at TN_X10 TM_X10_140 hd_X10_at ⟨Nat.le_of_ble_eq_true rfl, Nat.le_of_ble_eq_true rfl⟩) TI_X10_at TS_X10_at (ct_model G _ _) rfl rfl rfl (Nat.le_of_ble_eq_true rfl) dX10_closes_621 ⟨Nat.le_of_ble_eq_true rfl, Nat.le_of_ble_eq_true rfl⟩) hS (fun v_21 H locs w_22 hR hS => ?_)
                                  subst w_22
                                  rw [show s_9 35 29 = (σ 35 29) from (Eq.trans (show s_9 35 29 = s4 35 29 from (by rw [es_10]; exact up2_o (by omega))) (show s4 35 29 = σ 35 29 from hi3_557.2 29 (by first | omega | (dsimp only; omega))))]
                                  refine ald hC hK hR (ct_m_fs G _ _) (nI_T _ (by omega)) (by omega) (by omega) (Int.toNat_natCast _) dX10_closes_624 ?_
                                  have rd_23 : (s_9 55 (24 * (σ 35 29).toInt.toNat + n4)).toInt = (s4 55 (24 * (σ 35 29).toInt.toNat + n4)).toInt := congrArg Int32.toInt (show s_9 55 (24 * (σ 35 29).toInt.toNat + n4) = s4 55 (24 * (σ 35 29).toInt.toNat + n4) from (by rw [es_10]; exact up2_o (by omega)))
                                  refine lv_ldc hC.x hC.b hC.ow (hC.ts _ TK_X10_203) dX10_closes_625 ?_
                                  refine bi_eq (tgt := 634) (a := (s_9 55 (24 * (σ 35 29).toInt.toNat + n4)).toInt) (b := 2000000000) hC.x hC.b rfl rfl dX10_closes_627 (by decide) (fun c_24 => ?_) (fun c_24 => ?_)
                                  · skip
                                    refine lv_iconst (v := 0) hC.x hC.b dX10_closes_634 (by decide) ?_
                                    refine zast hC hK hG hR hS (fun _ => ct_m_hasF G _ _) (nI_T _ (by omega)) (by omega) (by omega) (Int.toNat_natCast _) (Or.inl rfl) dX10_closes_635 (fun s_25 es_26 H locs hR hS => ?_)
                                    exact L_636 s_25 (by exact (by rw [es_26]; exact KM.up (by rw [es_10]; exact KM.up hi0_557 (by omega)) (by omega))) (by exact MD6.go hi2_557 rfl rfl es_10 es_26 (by first | exact Or.inl ⟨by omega, by omega, rfl⟩ | exact Or.inr ⟨by omega, rfl⟩)) (by rw [es_26]; exact MRel.up ((by rw [es_10]; exact MRel.up (hi3_557) (by omega) (by first | omega | (dsimp only; omega)))) (by omega) (by first | omega | (dsimp only; omega))) _ _ _ hR hS (lv_sub hl [0, 1, 2, 3] rfl)
                                  · skip
                                    refine lv_iconst (v := 1) hC.x hC.b dX10_closes_630 (by decide) ?_
                                    refine lv_goto (tgt := 635) hC.x hC.b dX10_closes_631 (by decide) ?_
                                    refine zast hC hK hG hR hS (fun _ => ct_m_hasF G _ _) (nI_T _ (by omega)) (by omega) (by omega) (Int.toNat_natCast _) (Or.inr rfl) dX10_closes_635 (fun s_27 es_28 H locs hR hS => ?_)
                                    exact L_636 s_27 (by exact (by rw [es_28]; exact KM.up (by rw [es_10]; exact KM.up hi0_557 (by omega)) (by omega))) (by exact MD6.go hi2_557 rfl rfl es_10 es_28 (by first | exact Or.inl ⟨by omega, by omega, rfl⟩ | exact Or.inr ⟨by omega, rfl⟩)) (by rw [es_28]; exact MRel.up ((by rw [es_10]; exact MRel.up (hi3_557) (by omega) (by first | omega | (dsimp only; omega)))) (by omega) (by first | omega | (dsimp only; omega))) _ _ _ hR hS (lv_sub hl [0, 1, 2, 3] rfl)
                          exact L_557 _ 0 s3 t3 (Nat.lt_succ_self _) (by exact hi0_403) (by first | omega | assumption) (by exact MD6.st) hi3_403 _ _ _ hR hS (lv_sub hl [1, 2, 3, 0] rfl)
                        · skip
                          have L_548 : ∀ (s3c : SI) (t3c : SL), (KM s3c) → (MX6 s5 s3c (σ 35 29) x11 (n3 + 1)) → (MRel (fun k => (41 ≤ k ∧ k ≤ 46 ∧ k ≠ 42 ∧ k ≠ 43) ∨ (52 ≤ k ∧ k ≤ 69) ∨ k = 71) (fun j => j = 37 ∨ j = 41 ∨ j = 43 ∨ j = 44) σ s3c) → ∀ (H : Heap) (locs : List Loc) (ls : Array Slot), RepH G s3c t3c H → va_S A s.heap H locs → lv_has ls 17 [(0, .ref (G.2.1 35)), (1, .int ra), (2, .int x2), (11, .long x11), (13, .int (nI n3))] → W p l e (rmD 6) s m args below meth c H locs 0 0 (MQ below (va_Qi (po7_X10_closes σ τ ra rq) (BU G) A) args s 0 0 A) (F0 m 548 ls []) := by
                            intro s3c t3c hi0_548 hi1_548 hi2_548 H locs ls hR hS hl
                            refine lv_iinc (v := nI (n3 + 1)) (lv' := [(13, .int (nI (n3 + 1))), (0, .ref (G.2.1 35)), (1, .int ra), (2, .int x2), (11, .long x11)]) hC.x hC.b dX10_closes_548 hl (k := 4) rfl (nI_succ _).symm (by decide) rfl (fun ls hl => ?_)
                            refine lv_goto (tgt := 403) hC.x hC.b dX10_closes_551 (by decide) ?_
                            exact ih_403 (n3 + 1) s3c t3c (by omega) (by exact hi0_548) (by first | omega | assumption) (by exact hi1_548) hi2_548 _ _ _ hR hS (lv_sub hl [1, 2, 3, 4, 0] rfl)
                          refine lv_aload_n hC.x hC.b dX10_closes_410 rfl (lv_at hl 0 rfl) ?_
                          refine rget hC hK hR (ct_model G _ _) rfl uin_X10 48 (by decide) TF_X10_126 rfl dX10_closes_411 ?_
                          refine lv_iload hC.x hC.b dX10_closes_414 (lv_at hl 4 rfl) ?_
                          refine zald hC hK hR (ct_m_present G _ _) (nI_T n3 (by omega)) (by omega) (by omega) (Int.toNat_natCast _) dX10_closes_416 ?_
                          refine bz_ne (tgt := 423) (a := (s3 71 n3).toInt) (b := 0) hC.x hC.b rfl rfl dX10_closes_417 (by decide) (fun c_29 => ?_) (fun c_29 => ?_)
                          · skip
                            refine lv_aload_n hC.x hC.b dX10_closes_423 rfl (lv_at hl 0 rfl) ?_
                            refine lv_aload_n hC.x hC.b dX10_closes_424 rfl (lv_at hl 0 rfl) ?_
                            refine rget hC hK hR (ct_model G _ _) rfl uin_X10 29 (by decide) TF_X10_137 rfl dX10_closes_425 ?_
                            have rd_30 : (s3 35 29).toInt = (σ 35 29).toInt := congrArg Int32.toInt (show s3 35 29 = σ 35 29 from hi3_403.2 29 (by first | omega | (dsimp only; omega)))
                            refine lv_iload hC.x hC.b dX10_closes_428 (lv_at hl 4 rfl) ?_
                            have av_31 : (nI n3).toInt = (n3 : Int) := (nI_T n3 (by omega))
                            refine goip (runV (As := [.int (s3 35 29), .int (nI n3)]) (rest := []) hC hK hR hl.1 (c_X10_at l hG s3 t3 (s3 35 29) (((s3 35 29).toInt).toNat) (by first | rfl | (rw [show (s3 35 29).toInt = (s3 35 29).toInt from rfl]; done) | (rw [show (s3 35 29).toInt = (s3 35 29).toInt from rfl]; exact rfl)) (nI n3) n3 (by first | rfl | (rw [show (nI n3).toInt = (n3 : Int) from (nI_T n3 (by omega))]; done) | (rw [show (nI n3).toInt = (n3 : Int) from (nI_T n3 (by omega))]; exact (Int.toNat_natCast _))) (by omega) (by omega)) (call_b hC.ts TC_X10_at TN_X10 TM_X10_140 hd_X10_at ⟨Nat.le_of_ble_eq_true rfl, Nat.le_of_ble_eq_true rfl⟩) TI_X10_at TS_X10_at (ct_model G _ _) rfl rfl rfl (Nat.le_of_ble_eq_true rfl) dX10_closes_430 ⟨Nat.le_of_ble_eq_true rfl, Nat.le_of_ble_eq_true rfl⟩) hS (fun v_32 H locs w_33 hR hS => ?_)
                            subst w_33
                            rw [show s3 35 29 = (σ 35 29) from (show s3 35 29 = σ 35 29 from hi3_403.2 29 (by first | omega | (dsimp only; omega)))]
                            refine lv_istore (lv' := [(14, .int (nI (24 * (σ 35 29).toInt.toNat + n3))), (0, .ref (G.2.1 35)), (1, .int ra), (2, .int x2), (11, .long x11), (13, .int (nI n3))]) hC.x hC.b dX10_closes_433 hl (by decide) rfl (fun ls hl => ?_)
                            refine lv_aload_n hC.x hC.b dX10_closes_435 rfl (lv_at hl 1 rfl) ?_
                            refine rget hC hK hR (ct_model G _ _) rfl uin_X10 18 (by decide) TF_X10_65 rfl dX10_closes_436 ?_
                            refine lv_iload hC.x hC.b dX10_closes_439 (lv_at hl 0 rfl) ?_
                            refine lv_lload hC.x hC.b dX10_closes_441 (lv_at hl 4 rfl) ?_
                            refine lv_aload_n hC.x hC.b dX10_closes_443 rfl (lv_at hl 1 rfl) ?_
                            refine rget hC hK hR (ct_model G _ _) rfl uin_X10 22 (by decide) TF_X10_77 rfl dX10_closes_444 ?_
                            refine lv_iload hC.x hC.b dX10_closes_447 (lv_at hl 0 rfl) ?_
                            refine ald hC hK hR (ct_m_ds G _ _) (nI_T _ (by omega)) (by omega) (by omega) (Int.toNat_natCast _) dX10_closes_449 ?_
                            refine lv_i2l hC.x hC.b dX10_closes_450 rfl ?_
                            refine lv_lsub hC.x hC.b dX10_closes_451 ?_
                            refine lv_l2i hC.x hC.b dX10_closes_452 rfl ?_
                            refine ast hC hK hG hR hS (fun _ => ct_m_xs G _ _) (nI_T _ (by omega)) (by omega) (by omega) (Int.toNat_natCast _) dX10_closes_453 (fun s_34 es_35 H locs hR hS => ?_)
                            refine lv_aload_n hC.x hC.b dX10_closes_454 rfl (lv_at hl 1 rfl) ?_
                            refine rget hC hK hR (ct_model G _ _) rfl uin_X10 18 (by decide) TF_X10_65 rfl dX10_closes_455 ?_
                            refine lv_iload hC.x hC.b dX10_closes_458 (lv_at hl 0 rfl) ?_
                            refine ald hC hK hR (ct_m_xs G _ _) (nI_T _ (by omega)) (by omega) (by omega) (Int.toNat_natCast _) dX10_closes_460 ?_
                            have rd_36 : (s_34 54 (24 * (σ 35 29).toInt.toNat + n3)).toInt = ((x11 - (s3 58 (24 * (σ 35 29).toInt.toNat + n3)).toInt64).toInt32).toInt := congrArg Int32.toInt (show s_34 54 (24 * (σ 35 29).toInt.toNat + n3) = ((x11 - (s3 58 (24 * (σ 35 29).toInt.toNat + n3)).toInt64).toInt32) from (by rw [es_35]; exact up2_s))
                            refine lv_i2l hC.x hC.b dX10_closes_461 rfl ?_
                            refine lv_aload_n hC.x hC.b dX10_closes_462 rfl (lv_at hl 1 rfl) ?_
                            refine rget hC hK hR (ct_model G _ _) rfl uin_X10 19 (by decide) TF_X10_68 rfl dX10_closes_463 ?_
                            refine lv_iload hC.x hC.b dX10_closes_466 (lv_at hl 0 rfl) ?_
                            refine ald hC hK hR (ct_m_fs G _ _) (nI_T _ (by omega)) (by omega) (by omega) (Int.toNat_natCast _) dX10_closes_468 ?_
                            have rd_37 : (s_34 55 (24 * (σ 35 29).toInt.toNat + n3)).toInt = (s3 55 (24 * (σ 35 29).toInt.toNat + n3)).toInt := congrArg Int32.toInt (show s_34 55 (24 * (σ 35 29).toInt.toNat + n3) = s3 55 (24 * (σ 35 29).toInt.toNat + n3) from (by rw [es_35]; exact up2_o (by omega)))
                            refine lv_i2l hC.x hC.b dX10_closes_469 rfl ?_
                            refine lv_lsub hC.x hC.b dX10_closes_470 ?_
                            refine lv_topl (fun x_38 ex_39 => ?_)
                            refine lv_lstore (lv' := [(15, .long x_38), (14, .int (nI (24 * (σ 35 29).toInt.toNat + n3))), (0, .ref (G.2.1 35)), (1, .int ra), (2, .int x2), (11, .long x11), (13, .int (nI n3))]) hC.x hC.b dX10_closes_471 hl (by decide) rfl (fun ls hl => ?_)
                            have L_513 : ∀ (s3b : SI), (KM s3b) → (∃ a9 v9, s3b = up2 (up2 s3 54 (24 * (σ 35 29).toInt.toNat + n3) a9) 56 (24 * (σ 35 29).toInt.toNat + n3) v9 ∧ a9 = (x11 - (s3 58 (24 * (σ 35 29).toInt.toNat + n3)).toInt64).toInt32 ∧ cv6 v9 (a9.toInt64 - (s3 55 (24 * (σ 35 29).toInt.toNat + n3)).toInt64)) → (MRel (fun k => (41 ≤ k ∧ k ≤ 46 ∧ k ≠ 42 ∧ k ≠ 43) ∨ (52 ≤ k ∧ k ≤ 69) ∨ k = 71) (fun j => j = 37 ∨ j = 41 ∨ j = 43 ∨ j = 44) σ s3b) → ∀ (H : Heap) (locs : List Loc) (ls : Array Slot), RepH G s3b t3 H → va_S A s.heap H locs → lv_has ls 17 [(0, .ref (G.2.1 35)), (1, .int ra), (2, .int x2), (11, .long x11), (13, .int (nI n3)), (14, .int (nI (24 * (σ 35 29).toInt.toNat + n3)))] → W p l e (rmD 6) s m args below meth c H locs 0 0 (MQ below (va_Qi (po7_X10_closes σ τ ra rq) (BU G) A) args s 0 0 A) (F0 m 513 ls []) := by
                              intro s3b hi0_513 hi1_513 hi2_513 H locs ls hR hS hl
                              obtain ⟨a9, v9, e9, ea9, hv9⟩ := hi1_513
                              obtain ⟨htk3, h44b, h38b, h43b, h29b, hfb⟩ := cl_b hMA hi2_203 hi1_400 hi2_403 e9 (by omega) (by omega)
                              have hc63 := hc6 n3 (by omega) ⟨htk3.1, htk3.2.1⟩
                              have hb56 := hi0_513.1 (24 * (σ 35 29).toInt.toNat + n3)
                              have hsub := hsu_b hsq hkm (by omega) (by omega) htk3 h44b h43b h29b hfb
                              refine lv_aload_n hC.x hC.b dX10_closes_513 rfl (lv_at hl 0 rfl) ?_
                              refine rget hC hK hR (ct_model G _ _) rfl uin_X10 19 (by decide) TF_X10_68 rfl dX10_closes_514 ?_
                              refine lv_iload hC.x hC.b dX10_closes_517 (lv_at hl 5 rfl) ?_
                              refine ald hC hK hR (ct_m_fs G _ _) (nI_T _ (by omega)) (by omega) (by omega) (Int.toNat_natCast _) dX10_closes_519 ?_
                              refine lv_ldc hC.x hC.b hC.ow (hC.ts _ TK_X10_203) dX10_closes_520 ?_
                              refine bi_eq (tgt := 548) (a := (s3b 55 (24 * (σ 35 29).toInt.toNat + n3)).toInt) (b := 2000000000) hC.x hC.b rfl rfl dX10_closes_522 (by decide) (fun c_40 => ?_) (fun c_40 => ?_)
                              · skip
                                exact L_548 s3b t3 (by exact hi0_513) (by exact MX6.p hi2_403 (hi2_400.2 29 (by first | omega | (dsimp only; omega))).symm (by omega) (by omega) e9 ea9 hv9 (Or.inr ⟨(fun z9 => by have z8 : (s3b 55 (24 * (σ 35 29).toInt.toNat + n3)).toInt ≠ 2000000000 := z9.1; have z7 := z9.2; omega), rfl⟩)) hi2_513 _ _ _ hR hS (lv_sub hl [0, 1, 2, 3, 4] rfl)
                              · skip
                                refine lv_aload_n hC.x hC.b dX10_closes_525 rfl (lv_at hl 0 rfl) ?_
                                refine rget hC hK hR (ct_model G _ _) rfl uin_X10 5 (by decide) TF_X10_26 rfl dX10_closes_526 ?_
                                refine lv_iload hC.x hC.b dX10_closes_529 (lv_at hl 4 rfl) ?_
                                refine zald hC hK hR (ct_m_isOut G _ _) (nI_T n3 (by omega)) (by omega) (by omega) (Int.toNat_natCast _) dX10_closes_531 ?_
                                refine bz_ne (tgt := 548) (a := (s3b 41 n3).toInt) (b := 0) hC.x hC.b rfl rfl dX10_closes_532 (by decide) (fun c_41 => ?_) (fun c_41 => ?_)
                                · skip
                                  exact L_548 s3b t3 (by exact hi0_513) (by exact MX6.p hi2_403 (hi2_400.2 29 (by first | omega | (dsimp only; omega))).symm (by omega) (by omega) e9 ea9 hv9 (Or.inr ⟨(fun z9 => by have z8 : (s3b 55 (24 * (σ 35 29).toInt.toNat + n3)).toInt ≠ 2000000000 := z9.1; have z7 := z9.2; omega), rfl⟩)) hi2_513 _ _ _ hR hS (lv_sub hl [0, 1, 2, 3, 4] rfl)
                                · skip
                                  refine lv_aload_n hC.x hC.b dX10_closes_535 rfl (lv_at hl 0 rfl) ?_
                                  refine lv_iload hC.x hC.b dX10_closes_536 (lv_at hl 4 rfl) ?_
                                  refine lv_aload_n hC.x hC.b dX10_closes_538 rfl (lv_at hl 0 rfl) ?_
                                  refine rget hC hK hR (ct_model G _ _) rfl uin_X10 20 (by decide) TF_X10_71 rfl dX10_closes_539 ?_
                                  refine lv_iload hC.x hC.b dX10_closes_542 (lv_at hl 5 rfl) ?_
                                  refine ald hC hK hR (ct_m_ms G _ _) (nI_T _ (by omega)) (by omega) (by omega) (Int.toNat_natCast _) dX10_closes_544 ?_
                                  have av_42 : (nI n3).toInt = (n3 : Int) := (nI_T n3 (by omega))
                                  have rd_43 : (s3b 35 29).toInt = (σ 35 29).toInt := congrArg Int32.toInt (show s3b 35 29 = σ 35 29 from hi2_513.2 29 (by first | omega | (dsimp only; omega)))
                                  have rd_44 : (s3b 38 n3).toInt = (σ 38 n3).toInt := congrArg Int32.toInt (show s3b 38 n3 = σ 38 n3 from congrFun (hi2_513.1 38 (by omega) (by first | omega | (dsimp only; omega) | (intro h; exact h))) n3)
                                  refine gov (runV (As := [.int (nI n3), .int (s3b 56 (24 * (σ 35 29).toInt.toNat + n3))]) (rest := []) hC hK hR hl.1 (c7_X10_looks l hG s3b t3 (nI n3) n3 (by first | rfl | (rw [show (nI n3).toInt = (n3 : Int) from (nI_T n3 (by omega))]; done) | (rw [show (nI n3).toInt = (n3 : Int) from (nI_T n3 (by omega))]; exact (Int.toNat_natCast _))) (s3b 56 (24 * (σ 35 29).toInt.toNat + n3)) (by first | assumption | omega) (by omega) (by exact hi0_513) (by exact hb56) (by rw [h38b]; exact hc63.2) (by exact hsub)) (call_b hC.ts TC_X10_looks TN_X10 TM_X10_244 hd_X10_looks ⟨Nat.le_of_ble_eq_true rfl, Nat.le_of_ble_eq_true rfl⟩) TI_X10_looks TS_X10_looks (ct_model G _ _) rfl rfl rfl (Nat.le_of_ble_eq_true rfl) dX10_closes_545 ⟨Nat.le_of_ble_eq_true rfl, Nat.le_of_ble_eq_true rfl⟩) hS (fun s_47 t_48 H locs w_46 hR hS => ?_)
                                  try dsimp only [po7_X10_looks] at w_46
                                  obtain ⟨f_49, f_50, f_51⟩ := w_46
                                  exact L_548 s_47 t_48 (by exact f_50) (by exact MX6.p hi2_403 (hi2_400.2 29 (by first | omega | (dsimp only; omega))).symm (by omega) (by omega) e9 ea9 hv9 (Or.inl ⟨⟨(show (s3b 55 (24 * (σ 35 29).toInt.toNat + n3)).toInt ≠ 2000000000 by omega), by omega⟩, f_51⟩)) (MRel.tr hi2_513 (MRel.mo f_49 (by intro k q; first | omega | (dsimp only at q ⊢; omega) | exact q.elim) (by intro j q; first | omega | (dsimp only at q ⊢; omega) | exact q.elim))) _ _ _ hR hS (lv_sub hl [0, 1, 2, 3, 4] rfl)
                            refine lv_aload_n hC.x hC.b dX10_closes_473 rfl (lv_at hl 2 rfl) ?_
                            refine rget hC hK hR (ct_model G _ _) rfl uin_X10 20 (by decide) TF_X10_71 rfl dX10_closes_474 ?_
                            refine lv_iload hC.x hC.b dX10_closes_477 (lv_at hl 1 rfl) ?_
                            refine lv_lload hC.x hC.b dX10_closes_479 (lv_at hl 0 rfl) ?_
                            refine lv_ldc2 hC.x hC.b hC.ow (hC.ts _ TK_X10_240) dX10_closes_481 ?_
                            refine bl_le (tgt := 494) (a := x_38.toInt) (b := 30000) hC.x hC.b rfl rfl dX10_closes_484 dX10_closes_485 (by decide) (fun c_52 => ?_) (fun c_52 => ?_)
                            · skip
                              refine lv_lload hC.x hC.b dX10_closes_494 (lv_at hl 0 rfl) ?_
                              refine lv_ldc2 hC.x hC.b hC.ow (hC.ts _ TK_X10_242) dX10_closes_496 ?_
                              refine bl_ge (tgt := 509) (a := x_38.toInt) (b := (-30000)) hC.x hC.b rfl rfl dX10_closes_499 dX10_closes_500 (by decide) (fun c_53 => ?_) (fun c_53 => ?_)
                              · skip
                                refine lv_lload hC.x hC.b dX10_closes_509 (lv_at hl 0 rfl) ?_
                                refine lv_l2i hC.x hC.b dX10_closes_511 rfl ?_
                                have pr_54 : x_38.toInt32.toInt = x_38.toInt := l2iI rfl (by omega) (by omega)
                                refine ast hC hK hG hR hS (fun _ => ct_m_ms G _ _) (nI_T _ (by omega)) (by omega) (by omega) (Int.toNat_natCast _) dX10_closes_512 (fun s_55 es_56 H locs hR hS => ?_)
                                exact L_513 s_55 (by exact (by rw [es_56]; exact KM.u56 (by rw [es_35]; exact KM.up hi0_403 (by omega)) (by first | omega | decide))) (by exact mx_in es_35 es_56 rfl ex_39 (by first | exact Or.inl ⟨by omega, rfl⟩ | exact Or.inr (Or.inl ⟨by omega, rfl⟩) | exact Or.inr (Or.inr ⟨by omega, rfl⟩))) (by rw [es_56]; exact MRel.up ((by rw [es_35]; exact MRel.up (hi3_403) (by omega) (by first | omega | (dsimp only; omega)))) (by omega) (by first | omega | (dsimp only; omega))) _ _ _ hR hS (lv_sub hl [2, 3, 4, 5, 6, 1] rfl)
                              · skip
                                refine lv_sipush (v := (-30000)) hC.x hC.b dX10_closes_503 (by decide) ?_
                                refine lv_goto (tgt := 512) hC.x hC.b dX10_closes_506 (by decide) ?_
                                refine ast hC hK hG hR hS (fun _ => ct_m_ms G _ _) (nI_T _ (by omega)) (by omega) (by omega) (Int.toNat_natCast _) dX10_closes_512 (fun s_57 es_58 H locs hR hS => ?_)
                                exact L_513 s_57 (by exact (by rw [es_58]; exact KM.u56 (by rw [es_35]; exact KM.up hi0_403 (by omega)) (by first | omega | decide))) (by exact mx_in es_35 es_58 rfl ex_39 (by first | exact Or.inl ⟨by omega, rfl⟩ | exact Or.inr (Or.inl ⟨by omega, rfl⟩) | exact Or.inr (Or.inr ⟨by omega, rfl⟩))) (by rw [es_58]; exact MRel.up ((by rw [es_35]; exact MRel.up (hi3_403) (by omega) (by first | omega | (dsimp only; omega)))) (by omega) (by first | omega | (dsimp only; omega))) _ _ _ hR hS (lv_sub hl [2, 3, 4, 5, 6, 1] rfl)
                            · skip
                              refine lv_sipush (v := 30000) hC.x hC.b dX10_closes_488 (by decide) ?_
                              refine lv_goto (tgt := 512) hC.x hC.b dX10_closes_491 (by decide) ?_
                              refine ast hC hK hG hR hS (fun _ => ct_m_ms G _ _) (nI_T _ (by omega)) (by omega) (by omega) (Int.toNat_natCast _) dX10_closes_512 (fun s_59 es_60 H locs hR hS => ?_)
                              exact L_513 s_59 (by exact (by rw [es_60]; exact KM.u56 (by rw [es_35]; exact KM.up hi0_403 (by omega)) (by first | omega | decide))) (by exact mx_in es_35 es_60 rfl ex_39 (by first | exact Or.inl ⟨by omega, rfl⟩ | exact Or.inr (Or.inl ⟨by omega, rfl⟩) | exact Or.inr (Or.inr ⟨by omega, rfl⟩))) (by rw [es_60]; exact MRel.up ((by rw [es_35]; exact MRel.up (hi3_403) (by omega) (by first | omega | (dsimp only; omega)))) (by omega) (by first | omega | (dsimp only; omega))) _ _ _ hR hS (lv_sub hl [2, 3, 4, 5, 6, 1] rfl)
                          · skip
                            refine lv_goto (tgt := 548) hC.x hC.b dX10_closes_420 (by decide) ?_
                            exact L_548 s3 t3 (by exact hi0_403) (by exact MX6.q hi2_403 (by omega)) hi3_403 _ _ _ hR hS (lv_sub hl [0, 1, 2, 3, 4] rfl)
                    exact L_403 _ 0 s5 t2 (Nat.lt_succ_self _) (by exact hi0_400) (by first | omega | assumption) (by exact MX6.st) hi2_400 _ _ _ hR hS (lv_sub hl [1, 2, 3, 4, 0] rfl)
                  refine lv_aload_n hC.x hC.b dX10_closes_349 rfl (lv_at hl 0 rfl) ?_
                  refine rget hC hK hR (ct_model G _ _) rfl uin_X10 24 (by decide) TF_X10_83 rfl dX10_closes_350 ?_
                  refine lv_aload_n hC.x hC.b dX10_closes_353 rfl (lv_at hl 0 rfl) ?_
                  refine rget hC hK hR (ct_model G _ _) rfl uin_X10 29 (by decide) TF_X10_137 rfl dX10_closes_354 ?_
                  have rd_61 : (s2 35 29).toInt = (σ 35 29).toInt := congrArg Int32.toInt (show s2 35 29 = σ 35 29 from hi3_203.2 29 (by first | omega | (dsimp only; omega)))
                  rw [show s2 35 29 = (σ 35 29) from (show s2 35 29 = σ 35 29 from hi3_203.2 29 (by first | omega | (dsimp only; omega)))]
                  refine lv_iload_n hC.x hC.b dX10_closes_357 rfl (lv_at hl 2 rfl) ?_
                  refine ast hC hK hG hR hS (fun _ => ct_m_presents G _ _) rfl (by omega) (by omega) rfl dX10_closes_358 (fun s_62 es_63 H locs hR hS => ?_)
                  refine lv_aload_n hC.x hC.b dX10_closes_359 rfl (lv_at hl 0 rfl) ?_
                  refine rget hC hK hR (ct_model G _ _) rfl uin_X10 28 (by decide) TF_X10_95 rfl dX10_closes_360 ?_
                  refine lv_aload_n hC.x hC.b dX10_closes_363 rfl (lv_at hl 0 rfl) ?_
                  refine rget hC hK hR (ct_model G _ _) rfl uin_X10 29 (by decide) TF_X10_137 rfl dX10_closes_364 ?_
                  have rd_64 : (s_62 35 29).toInt = (σ 35 29).toInt := congrArg Int32.toInt (Eq.trans (show s_62 35 29 = s2 35 29 from (by rw [es_63]; exact up2_o (by omega))) (show s2 35 29 = σ 35 29 from hi3_203.2 29 (by first | omega | (dsimp only; omega))))
                  rw [show s_62 35 29 = (σ 35 29) from (Eq.trans (show s_62 35 29 = s2 35 29 from (by rw [es_63]; exact up2_o (by omega))) (show s2 35 29 = σ 35 29 from hi3_203.2 29 (by first | omega | (dsimp only; omega))))]
                  refine lv_lload hC.x hC.b dX10_closes_367 (lv_at hl 3 rfl) ?_
                  refine lv_l2i hC.x hC.b dX10_closes_369 rfl ?_
                  refine ast hC hK hG hR hS (fun _ => ct_m_sums G _ _) rfl (by omega) (by omega) rfl dX10_closes_370 (fun s_65 es_66 H locs hR hS => ?_)
                  refine lv_aload_n hC.x hC.b dX10_closes_371 rfl (lv_at hl 0 rfl) ?_
                  refine rget hC hK hR (ct_model G _ _) rfl uin_X10 25 (by decide) TF_X10_86 rfl dX10_closes_372 ?_
                  refine lv_aload_n hC.x hC.b dX10_closes_375 rfl (lv_at hl 0 rfl) ?_
                  refine rget hC hK hR (ct_model G _ _) rfl uin_X10 29 (by decide) TF_X10_137 rfl dX10_closes_376 ?_
                  have rd_67 : (s_65 35 29).toInt = (σ 35 29).toInt := congrArg Int32.toInt (Eq.trans (show s_65 35 29 = s_62 35 29 from (by rw [es_66]; exact up2_o (by omega))) (Eq.trans (show s_62 35 29 = s2 35 29 from (by rw [es_63]; exact up2_o (by omega))) (show s2 35 29 = σ 35 29 from hi3_203.2 29 (by first | omega | (dsimp only; omega)))))
                  rw [show s_65 35 29 = (σ 35 29) from (Eq.trans (show s_65 35 29 = s_62 35 29 from (by rw [es_66]; exact up2_o (by omega))) (Eq.trans (show s_62 35 29 = s2 35 29 from (by rw [es_63]; exact up2_o (by omega))) (show s2 35 29 = σ 35 29 from hi3_203.2 29 (by first | omega | (dsimp only; omega)))))]
                  refine lv_lload hC.x hC.b dX10_closes_379 (lv_at hl 3 rfl) ?_
                  refine lv_lconst (v := 0) hC.x hC.b dX10_closes_381 (by decide) ?_
                  refine bl_ne (tgt := 390) (a := x7.toInt) (b := 0) hC.x hC.b rfl rfl dX10_closes_382 dX10_closes_383 (by decide) (fun c_68 => ?_) (fun c_68 => ?_)
                  · skip
                    refine lv_lload hC.x hC.b dX10_closes_390 (lv_at hl 4 rfl) ?_
                    refine lv_lload hC.x hC.b dX10_closes_392 (lv_at hl 5 rfl) ?_
                    refine lv_lload hC.x hC.b dX10_closes_394 (lv_at hl 3 rfl) ?_
                    refine lv_lmul hC.x hC.b dX10_closes_396 ?_
                    refine lv_lsub hC.x hC.b dX10_closes_397 ?_
                    refine lv_l2i hC.x hC.b dX10_closes_398 rfl ?_
                    refine ast hC hK hG hR hS (fun _ => ct_m_rests G _ _) rfl (by omega) (by omega) rfl dX10_closes_399 (fun s_69 es_70 H locs hR hS => ?_)
                    exact L_400 s_69 (by exact (by rw [es_70]; exact KM.up (by rw [es_66]; exact KM.up (by rw [es_63]; exact KM.up hi0_203 (by omega)) (by omega)) (by omega))) (by exact mp7_mk es_63 es_66 es_70 rfl rfl rfl (by first | exact Or.inl ⟨by omega, rfl⟩ | exact Or.inr ⟨by omega, rfl⟩)) (by rw [es_70]; exact MRel.up ((by rw [es_66]; exact MRel.up ((by rw [es_63]; exact MRel.up (hi3_203) (by omega) (by first | omega | (dsimp only; omega)))) (by omega) (by first | omega | (dsimp only; omega)))) (by omega) (by first | omega | (dsimp only; omega))) _ _ _ hR hS (lv_sub hl [0, 1, 2, 5] rfl)
                  · skip
                    refine lv_iconst (v := 0) hC.x hC.b dX10_closes_386 (by decide) ?_
                    refine lv_goto (tgt := 399) hC.x hC.b dX10_closes_387 (by decide) ?_
                    refine ast hC hK hG hR hS (fun _ => ct_m_rests G _ _) rfl (by omega) (by omega) rfl dX10_closes_399 (fun s_71 es_72 H locs hR hS => ?_)
                    exact L_400 s_71 (by exact (by rw [es_72]; exact KM.up (by rw [es_66]; exact KM.up (by rw [es_63]; exact KM.up hi0_203 (by omega)) (by omega)) (by omega))) (by exact mp7_mk es_63 es_66 es_72 rfl rfl rfl (by first | exact Or.inl ⟨by omega, rfl⟩ | exact Or.inr ⟨by omega, rfl⟩)) (by rw [es_72]; exact MRel.up ((by rw [es_66]; exact MRel.up ((by rw [es_63]; exact MRel.up (hi3_203) (by omega) (by first | omega | (dsimp only; omega)))) (by omega) (by first | omega | (dsimp only; omega)))) (by omega) (by first | omega | (dsimp only; omega))) _ _ _ hR hS (lv_sub hl [0, 1, 2, 5] rfl)
                refine lv_lload hC.x hC.b dX10_closes_329 (lv_at hl 4 rfl) ?_
                refine lv_lconst (v := 0) hC.x hC.b dX10_closes_331 (by decide) ?_
                refine bl_ne (tgt := 340) (a := x7.toInt) (b := 0) hC.x hC.b rfl rfl dX10_closes_332 dX10_closes_333 (by decide) (fun c_73 => ?_) (fun c_73 => ?_)
                · skip
                  refine lv_lload hC.x hC.b dX10_closes_340 (lv_at hl 5 rfl) ?_
                  refine lv_lload hC.x hC.b dX10_closes_342 (lv_at hl 4 rfl) ?_
                  refine golp (runS (As := [.long x9, .long x7]) (rest := []) hC hK hR hl.1 (c5_X10_downwards l hG s2 t2 x9 x7 (by omega)) (call_b hC.ts TC_X10_downwards TN_X10 TM_X10_192 hd_X10_downwards ⟨Nat.le_of_ble_eq_true rfl, Nat.le_of_ble_eq_true rfl⟩) TT_X10_downwards rfl rfl (Nat.le_of_ble_eq_true rfl) dX10_closes_344 ⟨Nat.le_of_ble_eq_true rfl, Nat.le_of_ble_eq_true rfl⟩) hS (fun v_74 H locs w_75 hR hS => ?_)
                  have f_76 := w_75
                  refine lv_lstore (lv' := [(11, .long v_74), (0, .ref (G.2.1 35)), (1, .int ra), (2, .int x2), (5, .long x5), (7, .long x7), (9, .long x9)]) hC.x hC.b dX10_closes_347 hl (by decide) rfl (fun ls hl => ?_)
                  exact L_349 v_74 (by first | exact Or.inl ⟨by omega, rfl⟩ | exact Or.inr ⟨by omega, by assumption⟩) _ _ _ hR hS (lv_sub hl [1, 2, 3, 5, 6, 0] rfl)
                · skip
                  refine lv_lconst (v := 0) hC.x hC.b dX10_closes_336 (by decide) ?_
                  refine lv_goto (tgt := 347) hC.x hC.b dX10_closes_337 (by decide) ?_
                  refine lv_lstore (lv' := [(11, .long (0 : Int64)), (0, .ref (G.2.1 35)), (1, .int ra), (2, .int x2), (5, .long x5), (7, .long x7), (9, .long x9)]) hC.x hC.b dX10_closes_347 hl (by decide) rfl (fun ls hl => ?_)
                  exact L_349 (0 : Int64) (by first | exact Or.inl ⟨by omega, rfl⟩ | exact Or.inr ⟨by omega, by assumption⟩) _ _ _ hR hS (lv_sub hl [1, 2, 3, 5, 6, 0] rfl)
              · skip
                have L_323 : ∀ (y7 : Int64) (y9 : Int64) (s2c : SI), (KM s2c) → (MB6 s1 s2c (σ 35 29) (mo6 (s1 35 30) x3) (n2 + 1) y7 y9) → (MRel (fun k => (41 ≤ k ∧ k ≤ 46 ∧ k ≠ 42 ∧ k ≠ 43) ∨ (52 ≤ k ∧ k ≤ 69) ∨ k = 71) (fun j => j = 37 ∨ j = 41 ∨ j = 43 ∨ j = 44) σ s2c) → ∀ (H : Heap) (locs : List Loc) (ls : Array Slot), RepH G s2c t2 H → va_S A s.heap H locs → lv_has ls 17 [(0, .ref (G.2.1 35)), (1, .int ra), (2, .int x2), (5, .long x5), (7, .long y7), (9, .long y9), (11, .int (nI n2))] → W p l e (rmD 6) s m args below meth c H locs 0 0 (MQ below (va_Qi (po7_X10_closes σ τ ra rq) (BU G) A) args s 0 0 A) (F0 m 323 ls []) := by
                  intro y7 y9 s2c hi0_323 hi1_323 hi2_323 H locs ls hR hS hl
                  refine lv_iinc (v := nI (n2 + 1)) (lv' := [(11, .int (nI (n2 + 1))), (0, .ref (G.2.1 35)), (1, .int ra), (2, .int x2), (5, .long x5), (7, .long y7), (9, .long y9)]) hC.x hC.b dX10_closes_323 hl (k := 6) rfl (nI_succ _).symm (by decide) rfl (fun ls hl => ?_)
                  refine lv_goto (tgt := 203) hC.x hC.b dX10_closes_326 (by decide) ?_
                  exact ih_203 y7 y9 (n2 + 1) s2c t2 (by omega) (by exact hi0_323) (by first | omega | assumption) (by exact hi1_323) hi2_323 _ _ _ hR hS (lv_sub hl [1, 2, 3, 4, 5, 6, 0] rfl)
                refine lv_aload_n hC.x hC.b dX10_closes_210 rfl (lv_at hl 0 rfl) ?_
                refine rget hC hK hR (ct_model G _ _) rfl uin_X10 48 (by decide) TF_X10_126 rfl dX10_closes_211 ?_
                refine lv_iload hC.x hC.b dX10_closes_214 (lv_at hl 6 rfl) ?_
                refine zald hC hK hR (ct_m_present G _ _) (nI_T n2 (by omega)) (by omega) (by omega) (Int.toNat_natCast _) dX10_closes_216 ?_
                refine bz_ne (tgt := 223) (a := (s2 71 n2).toInt) (b := 0) hC.x hC.b rfl rfl dX10_closes_217 (by decide) (fun c_77 => ?_) (fun c_77 => ?_)
                · skip
                  refine lv_aload_n hC.x hC.b dX10_closes_223 rfl (lv_at hl 0 rfl) ?_
                  refine lv_aload_n hC.x hC.b dX10_closes_224 rfl (lv_at hl 0 rfl) ?_
                  refine rget hC hK hR (ct_model G _ _) rfl uin_X10 29 (by decide) TF_X10_137 rfl dX10_closes_225 ?_
                  have rd_78 : (s2 35 29).toInt = (σ 35 29).toInt := congrArg Int32.toInt (show s2 35 29 = σ 35 29 from hi3_203.2 29 (by first | omega | (dsimp only; omega)))
                  refine lv_iload hC.x hC.b dX10_closes_228 (lv_at hl 6 rfl) ?_
                  have av_79 : (nI n2).toInt = (n2 : Int) := (nI_T n2 (by omega))
                  refine goip (runV (As := [.int (s2 35 29), .int (nI n2)]) (rest := []) hC hK hR hl.1 (c_X10_at l hG s2 t2 (s2 35 29) (((s2 35 29).toInt).toNat) (by first | rfl | (rw [show (s2 35 29).toInt = (s2 35 29).toInt from rfl]; done) | (rw [show (s2 35 29).toInt = (s2 35 29).toInt from rfl]; exact rfl)) (nI n2) n2 (by first | rfl | (rw [show (nI n2).toInt = (n2 : Int) from (nI_T n2 (by omega))]; done) | (rw [show (nI n2).toInt = (n2 : Int) from (nI_T n2 (by omega))]; exact (Int.toNat_natCast _))) (by omega) (by omega)) (call_b hC.ts TC_X10_at TN_X10 TM_X10_140 hd_X10_at ⟨Nat.le_of_ble_eq_true rfl, Nat.le_of_ble_eq_true rfl⟩) TI_X10_at TS_X10_at (ct_model G _ _) rfl rfl rfl (Nat.le_of_ble_eq_true rfl) dX10_closes_230 ⟨Nat.le_of_ble_eq_true rfl, Nat.le_of_ble_eq_true rfl⟩) hS (fun v_80 H locs w_81 hR hS => ?_)
                  subst w_81
                  rw [show s2 35 29 = (σ 35 29) from (show s2 35 29 = σ 35 29 from hi3_203.2 29 (by first | omega | (dsimp only; omega)))]
                  refine lv_istore (lv' := [(12, .int (nI (24 * (σ 35 29).toInt.toNat + n2))), (0, .ref (G.2.1 35)), (1, .int ra), (2, .int x2), (5, .long x5), (7, .long x7), (9, .long x9), (11, .int (nI n2))]) hC.x hC.b dX10_closes_233 hl (by decide) rfl (fun ls hl => ?_)
                  have L_269 : ∀ (s2b : SI), (KM s2b) → (∃ v, s2b = up2 s2 57 (24 * (σ 35 29).toInt.toNat + n2) v ∧ v.toInt = min (s2 57 (24 * (σ 35 29).toInt.toNat + n2)).toInt (mo6 (s1 35 30) x3)) → (MRel (fun k => (41 ≤ k ∧ k ≤ 46 ∧ k ≠ 42 ∧ k ≠ 43) ∨ (52 ≤ k ∧ k ≤ 69) ∨ k = 71) (fun j => j = 37 ∨ j = 41 ∨ j = 43 ∨ j = 44) σ s2b) → ∀ (H : Heap) (locs : List Loc) (ls : Array Slot), RepH G s2b t2 H → va_S A s.heap H locs → lv_has ls 17 [(0, .ref (G.2.1 35)), (1, .int ra), (2, .int x2), (5, .long x5), (7, .long x7), (9, .long x9), (11, .int (nI n2)), (12, .int (nI (24 * (σ 35 29).toInt.toNat + n2)))] → W p l e (rmD 6) s m args below meth c H locs 0 0 (MQ below (va_Qi (po7_X10_closes σ τ ra rq) (BU G) A) args s 0 0 A) (F0 m 269 ls []) := by
                    intro s2b hi0_269 hi1_269 hi2_269 H locs ls hR hS hl
                    obtain ⟨v9, ev9, hv9⟩ := hi1_269
                    refine lv_lload hC.x hC.b dX10_closes_269 (lv_at hl 4 rfl) ?_
                    refine lv_aload_n hC.x hC.b dX10_closes_271 rfl (lv_at hl 0 rfl) ?_
                    refine rget hC hK hR (ct_model G _ _) rfl uin_X10 21 (by decide) TF_X10_74 rfl dX10_closes_272 ?_
                    refine lv_iload hC.x hC.b dX10_closes_275 (lv_at hl 7 rfl) ?_
                    refine ald hC hK hR (ct_m_ws G _ _) (nI_T _ (by omega)) (by omega) (by omega) (Int.toNat_natCast _) dX10_closes_277 ?_
                    refine lv_i2l hC.x hC.b dX10_closes_278 rfl ?_
                    refine lv_ladd hC.x hC.b dX10_closes_279 ?_
                    refine lv_topl (fun x_82 ex_83 => ?_)
                    refine lv_lstore (lv' := [(7, .long x_82), (0, .ref (G.2.1 35)), (1, .int ra), (2, .int x2), (5, .long x5), (9, .long x9), (11, .int (nI n2)), (12, .int (nI (24 * (σ 35 29).toInt.toNat + n2)))]) hC.x hC.b dX10_closes_280 hl (by decide) rfl (fun ls hl => ?_)
                    refine lv_aload_n hC.x hC.b dX10_closes_282 rfl (lv_at hl 1 rfl) ?_
                    refine rget hC hK hR (ct_model G _ _) rfl uin_X10 21 (by decide) TF_X10_74 rfl dX10_closes_283 ?_
                    refine lv_iload hC.x hC.b dX10_closes_286 (lv_at hl 7 rfl) ?_
                    refine ald hC hK hR (ct_m_ws G _ _) (nI_T _ (by omega)) (by omega) (by omega) (Int.toNat_natCast _) dX10_closes_288 ?_
                    refine bz_le (tgt := 323) (a := (s2b 57 (24 * (σ 35 29).toInt.toNat + n2)).toInt) (b := 0) hC.x hC.b rfl rfl dX10_closes_289 (by decide) (fun c_84 => ?_) (fun c_84 => ?_)
                    · skip
                      exact L_323 x_82 x9 s2b (by exact hi0_269) (by exact MB6.p hi2_203 mo6_1 (by omega) ev9 hv9 rfl ex_83 (by first | exact Or.inl ⟨by omega, rfl⟩ | exact Or.inr ⟨by omega, rfl⟩)) hi2_269 _ _ _ hR hS (lv_sub hl [1, 2, 3, 4, 0, 5, 6] rfl)
                    · skip
                      refine lv_lload hC.x hC.b dX10_closes_292 (lv_at hl 5 rfl) ?_
                      refine lv_aload_n hC.x hC.b dX10_closes_294 rfl (lv_at hl 1 rfl) ?_
                      refine rget hC hK hR (ct_model G _ _) rfl uin_X10 21 (by decide) TF_X10_74 rfl dX10_closes_295 ?_
                      refine lv_iload hC.x hC.b dX10_closes_298 (lv_at hl 7 rfl) ?_
                      refine ald hC hK hR (ct_m_ws G _ _) (nI_T _ (by omega)) (by omega) (by omega) (Int.toNat_natCast _) dX10_closes_300 ?_
                      refine lv_i2l hC.x hC.b dX10_closes_301 rfl ?_
                      refine lv_aload_n hC.x hC.b dX10_closes_302 rfl (lv_at hl 1 rfl) ?_
                      refine rget hC hK hR (ct_model G _ _) rfl uin_X10 19 (by decide) TF_X10_68 rfl dX10_closes_303 ?_
                      refine lv_iload hC.x hC.b dX10_closes_306 (lv_at hl 7 rfl) ?_
                      refine ald hC hK hR (ct_m_fs G _ _) (nI_T _ (by omega)) (by omega) (by omega) (Int.toNat_natCast _) dX10_closes_308 ?_
                      refine lv_i2l hC.x hC.b dX10_closes_309 rfl ?_
                      refine lv_aload_n hC.x hC.b dX10_closes_310 rfl (lv_at hl 1 rfl) ?_
                      refine rget hC hK hR (ct_model G _ _) rfl uin_X10 22 (by decide) TF_X10_77 rfl dX10_closes_311 ?_
                      refine lv_iload hC.x hC.b dX10_closes_314 (lv_at hl 7 rfl) ?_
                      refine ald hC hK hR (ct_m_ds G _ _) (nI_T _ (by omega)) (by omega) (by omega) (Int.toNat_natCast _) dX10_closes_316 ?_
                      refine lv_i2l hC.x hC.b dX10_closes_317 rfl ?_
                      refine lv_ladd hC.x hC.b dX10_closes_318 ?_
                      refine lv_lmul hC.x hC.b dX10_closes_319 ?_
                      refine lv_ladd hC.x hC.b dX10_closes_320 ?_
                      refine lv_topl (fun x_85 ex_86 => ?_)
                      refine lv_lstore (lv' := [(9, .long x_85), (7, .long x_82), (0, .ref (G.2.1 35)), (1, .int ra), (2, .int x2), (5, .long x5), (11, .int (nI n2)), (12, .int (nI (24 * (σ 35 29).toInt.toNat + n2)))]) hC.x hC.b dX10_closes_321 hl (by decide) rfl (fun ls hl => ?_)
                      exact L_323 x_82 x_85 s2b (by exact hi0_269) (by exact MB6.p hi2_203 mo6_1 (by omega) ev9 hv9 rfl ex_83 (by first | exact Or.inl ⟨by omega, ex_86⟩ | exact Or.inr ⟨by omega, ex_86⟩)) hi2_269 _ _ _ hR hS (lv_sub hl [2, 3, 4, 5, 1, 0, 6] rfl)
                  refine lv_aload_n hC.x hC.b dX10_closes_235 rfl (lv_at hl 1 rfl) ?_
                  refine rget hC hK hR (ct_model G _ _) rfl uin_X10 21 (by decide) TF_X10_74 rfl dX10_closes_236 ?_
                  refine lv_iload hC.x hC.b dX10_closes_239 (lv_at hl 0 rfl) ?_
                  refine lv_aload_n hC.x hC.b dX10_closes_241 rfl (lv_at hl 1 rfl) ?_
                  refine rget hC hK hR (ct_model G _ _) rfl uin_X10 21 (by decide) TF_X10_74 rfl dX10_closes_242 ?_
                  refine lv_iload hC.x hC.b dX10_closes_245 (lv_at hl 0 rfl) ?_
                  refine ald hC hK hR (ct_m_ws G _ _) (nI_T _ (by omega)) (by omega) (by omega) (Int.toNat_natCast _) dX10_closes_247 ?_
                  refine lv_i2l hC.x hC.b dX10_closes_248 rfl ?_
                  refine lv_lload hC.x hC.b dX10_closes_249 (lv_at hl 4 rfl) ?_
                  refine bl_le (tgt := 261) (a := (s2 57 (24 * (σ 35 29).toInt.toNat + n2)).toInt) (b := x5.toInt) hC.x hC.b (i2lI rfl) rfl dX10_closes_251 dX10_closes_252 (by decide) (fun c_87 => ?_) (fun c_87 => ?_)
                  · skip
                    refine lv_aload_n hC.x hC.b dX10_closes_261 rfl (lv_at hl 1 rfl) ?_
                    refine rget hC hK hR (ct_model G _ _) rfl uin_X10 21 (by decide) TF_X10_74 rfl dX10_closes_262 ?_
                    refine lv_iload hC.x hC.b dX10_closes_265 (lv_at hl 0 rfl) ?_
                    refine ald hC hK hR (ct_m_ws G _ _) (nI_T _ (by omega)) (by omega) (by omega) (Int.toNat_natCast _) dX10_closes_267 ?_
                    refine ast hC hK hG hR hS (fun _ => ct_m_ws G _ _) (nI_T _ (by omega)) (by omega) (by omega) (Int.toNat_natCast _) dX10_closes_268 (fun s_88 es_89 H locs hR hS => ?_)
                    exact L_269 s_88 (by exact (by rw [es_89]; exact KM.up hi0_203 (by omega))) (by first | exact ⟨_, es_89, mn_1 hi0_194 mo6_1 (by omega)⟩ | exact ⟨_, es_89, mn_2 hi0_194 (by omega)⟩) (by rw [es_89]; exact MRel.up (hi3_203) (by omega) (by first | omega | (dsimp only; omega))) _ _ _ hR hS (lv_sub hl [1, 2, 3, 4, 5, 6, 7, 0] rfl)
                  · skip
                    refine lv_lload hC.x hC.b dX10_closes_255 (lv_at hl 4 rfl) ?_
                    refine lv_l2i hC.x hC.b dX10_closes_257 rfl ?_
                    refine lv_goto (tgt := 268) hC.x hC.b dX10_closes_258 (by decide) ?_
                    refine ast hC hK hG hR hS (fun _ => ct_m_ws G _ _) (nI_T _ (by omega)) (by omega) (by omega) (Int.toNat_natCast _) dX10_closes_268 (fun s_90 es_91 H locs hR hS => ?_)
                    exact L_269 s_90 (by exact (by rw [es_91]; exact KM.up hi0_203 (by omega))) (by first | exact ⟨_, es_91, mn_1 hi0_194 mo6_1 (by omega)⟩ | exact ⟨_, es_91, mn_2 hi0_194 (by omega)⟩) (by rw [es_91]; exact MRel.up (hi3_203) (by omega) (by first | omega | (dsimp only; omega))) _ _ _ hR hS (lv_sub hl [1, 2, 3, 4, 5, 6, 7, 0] rfl)
                · skip
                  refine lv_goto (tgt := 323) hC.x hC.b dX10_closes_220 (by decide) ?_
                  exact L_323 x7 x9 s2 (by exact hi0_203) (by exact MB6.q hi2_203 (by omega)) hi3_203 _ _ _ hR hS (lv_sub hl [0, 1, 2, 3, 4, 5, 6] rfl)
          exact L_203 _ (0 : Int64) (0 : Int64) 0 s1 t1 (Nat.lt_succ_self _) (by exact hi0_7) (by first | omega | assumption) (by exact MB6.st) hi4_7 _ _ _ hR hS (lv_sub hl [3, 4, 5, 6, 2, 1, 0] rfl)
        refine lv_lload_n hC.x hC.b dX10_closes_166 rfl (lv_at hl 3 rfl) ?_
        refine lv_aload_n hC.x hC.b dX10_closes_167 rfl (lv_at hl 0 rfl) ?_
        refine rget hC hK hR (ct_model G _ _) rfl uin_X10 30 (by decide) TF_X10_98 rfl dX10_closes_168 ?_
        have rd_92 : (s1 35 30).toInt = (σ 35 30).toInt := congrArg Int32.toInt (show s1 35 30 = σ 35 30 from hi4_7.2 30 (by first | omega | (dsimp only; omega)))
        refine lv_i2l hC.x hC.b dX10_closes_171 rfl ?_
        refine lv_lmul hC.x hC.b dX10_closes_172 ?_
        refine lv_ldc2 hC.x hC.b hC.ow (hC.ts _ TK_X10_238) dX10_closes_173 ?_
        refine lv_ldiv hC.x hC.b dX10_closes_176 (by decide) ?_
        refine lv_topl (fun x_93 ex_94 => ?_)
        refine lv_lstore (lv' := [(5, .long x_93), (0, .ref (G.2.1 35)), (1, .int ra), (2, .int x2), (3, .long x3)]) hC.x hC.b dX10_closes_177 hl (by decide) rfl (fun ls hl => ?_)
        refine lv_lload hC.x hC.b dX10_closes_179 (lv_at hl 0 rfl) ?_
        refine lv_lconst (v := 1) hC.x hC.b dX10_closes_181 (by decide) ?_
        refine bl_ge (tgt := 190) (a := x_93.toInt) (b := 1) hC.x hC.b rfl rfl dX10_closes_182 dX10_closes_183 (by decide) (fun c_95 => ?_) (fun c_95 => ?_)
        · skip
          refine lv_lload hC.x hC.b dX10_closes_190 (lv_at hl 0 rfl) ?_
          refine lv_lstore (lv' := [(5, .long x_93), (0, .ref (G.2.1 35)), (1, .int ra), (2, .int x2), (3, .long x3)]) hC.x hC.b dX10_closes_192 hl (by decide) rfl (fun ls hl => ?_)
          exact L_194 x_93 (by first | exact mo_1 (by assumption) (by omega) | exact mo_2 (by assumption) (by omega)) _ _ _ hR hS (lv_sub hl [1, 2, 3, 0] rfl)
        · skip
          refine lv_lconst (v := 1) hC.x hC.b dX10_closes_186 (by decide) ?_
          refine lv_goto (tgt := 192) hC.x hC.b dX10_closes_187 (by decide) ?_
          refine lv_lstore (lv' := [(5, .long (1 : Int64)), (0, .ref (G.2.1 35)), (1, .int ra), (2, .int x2), (3, .long x3)]) hC.x hC.b dX10_closes_192 hl (by decide) rfl (fun ls hl => ?_)
          exact L_194 (1 : Int64) (by first | exact mo_1 (by assumption) (by omega) | exact mo_2 (by assumption) (by omega)) _ _ _ hR hS (lv_sub hl [1, 2, 3, 0] rfl)
      · skip
        refine lv_aload_n hC.x hC.b dX10_closes_14 rfl (lv_at hl 0 rfl) ?_
        refine rget hC hK hR (ct_model G _ _) rfl uin_X10 48 (by decide) TF_X10_126 rfl dX10_closes_15 ?_
        refine lv_iload hC.x hC.b dX10_closes_18 (lv_at hl 4 rfl) ?_
        refine lv_aload_n hC.x hC.b dX10_closes_20 rfl (lv_at hl 0 rfl) ?_
        refine lv_iload hC.x hC.b dX10_closes_21 (lv_at hl 4 rfl) ?_
        have av_96 : (nI n).toInt = (n : Int) := (nI_T n (by omega))
        refine goip (runV (As := [.int (nI n)]) (rest := [.int (nI n), .ref (G.2.1 71)]) hC hK hR hl.1 (c_X10_isTaken l hG s1 t1 (nI n) n (by first | rfl | (rw [show (nI n).toInt = (n : Int) from (nI_T n (by omega))]; done) | (rw [show (nI n).toInt = (n : Int) from (nI_T n (by omega))]; exact (Int.toNat_natCast _))) ) (call_b hC.ts TC_X10_isTaken TN_X10 TM_X10_219 hd_X10_isTaken ⟨Nat.le_of_ble_eq_true rfl, Nat.le_of_ble_eq_true rfl⟩) TI_X10_isTaken TS_X10_isTaken (ct_model G _ _) rfl rfl rfl (Nat.le_of_ble_eq_true rfl) dX10_closes_23 ⟨Nat.le_of_ble_eq_true rfl, Nat.le_of_ble_eq_true rfl⟩) hS (fun v_97 H locs w_98 hR hS => ?_)
        rcases w_98 with ⟨rfl, f_99, f_100, f_101, f_102⟩ | ⟨rfl, f_103⟩
        · skip
          have rd_104 : (s1 36 n).toInt = (σ 36 n).toInt := congrArg Int32.toInt (show s1 36 n = σ 36 n from congrFun (hi4_7.1 36 (by omega) (by first | omega | (dsimp only; omega) | (intro h; exact h))) n)
          refine bz_eq (tgt := 47) (a := 1) (b := 0) hC.x hC.b rfl rfl dX10_closes_26 (by decide) (fun c_105 => absurd c_105 (by decide)) (fun _ => ?_)
          refine lv_aload_n hC.x hC.b dX10_closes_29 rfl (lv_at hl 0 rfl) ?_
          refine lv_iload hC.x hC.b dX10_closes_30 (lv_at hl 4 rfl) ?_
          refine lv_iload_n hC.x hC.b dX10_closes_32 rfl (lv_at hl 1 rfl) ?_
          refine lv_aload_n hC.x hC.b dX10_closes_33 rfl (lv_at hl 0 rfl) ?_
          refine rget hC hK hR (ct_model G _ _) rfl uin_X10 29 (by decide) TF_X10_137 rfl dX10_closes_34 ?_
          have rd_106 : (s1 35 29).toInt = (σ 35 29).toInt := congrArg Int32.toInt (show s1 35 29 = σ 35 29 from hi4_7.2 29 (by first | omega | (dsimp only; omega)))
          have av_107 : (nI n).toInt = (n : Int) := (nI_T n (by omega))
          refine goi (runV (As := [.int (nI n), .int ra, .int (s1 35 29)]) (rest := [.int (nI n), .ref (G.2.1 71)]) hC hK hR hl.1 (c3_X10_goes l hG s1 t1 (nI n) n (by first | rfl | (rw [show (nI n).toInt = (n : Int) from (nI_T n (by omega))]; done) | (rw [show (nI n).toInt = (n : Int) from (nI_T n (by omega))]; exact (Int.toNat_natCast _))) ra rq (by first | rfl | (rw [show ra.toInt = ra.toInt from rfl]; done) | (rw [show ra.toInt = ra.toInt from rfl]; exact hp_rq)) (s1 35 29) (((s1 35 29).toInt).toNat) (by first | rfl | (rw [show (s1 35 29).toInt = (s1 35 29).toInt from rfl]; done) | (rw [show (s1 35 29).toInt = (s1 35 29).toInt from rfl]; exact rfl)) (by first | assumption | omega) (by omega) (by omega) (by exact LnM.fr (S := (fun k => (41 ≤ k ∧ k ≤ 46 ∧ k ≠ 42 ∧ k ≠ 43) ∨ (52 ≤ k ∧ k ≤ 69) ∨ k = 71)) (J := (fun j => j = 37 ∨ j = 41 ∨ j = 43 ∨ j = 44)) (σ1 := s1) hln hi4_7 (by first | omega | (dsimp only; omega)) (by first | omega | (dsimp only; omega)) (by first | omega | (dsimp only; omega)))) (call_b hC.ts TC_X10_goes TN_X10 TM_X10_164 hd_X10_goes ⟨Nat.le_of_ble_eq_true rfl, Nat.le_of_ble_eq_true rfl⟩) TI_X10_goes TS_X10_goes (ct_model G _ _) rfl rfl rfl (Nat.le_of_ble_eq_true rfl) dX10_closes_37 ⟨Nat.le_of_ble_eq_true rfl, Nat.le_of_ble_eq_true rfl⟩) hS (fun v_108 s_110 t_111 H locs w_109 hR hS => ?_)
          try dsimp only [po3_X10_goes] at w_109
          rcases w_109 with ⟨rfl, f_112, f_113, f_114⟩ | ⟨rfl, f_115, f_116, f_117⟩
          · skip
            refine bz_eq (tgt := 47) (a := 1) (b := 0) hC.x hC.b rfl rfl dX10_closes_40 (by decide) (fun c_118 => absurd c_118 (by decide)) (fun _ => ?_)
            refine lv_iconst (v := 1) hC.x hC.b dX10_closes_43 (by decide) ?_
            refine lv_goto (tgt := 48) hC.x hC.b dX10_closes_44 (by decide) ?_
            refine zast hC hK hG hR hS (fun _ => ct_m_present G _ _) (nI_T n (by omega)) (by omega) (by omega) (Int.toNat_natCast _) (Or.inr rfl) dX10_closes_48 (fun s_119 es_120 H locs hR hS => ?_)
            refine lv_aload_n hC.x hC.b dX10_closes_49 rfl (lv_at hl 0 rfl) ?_
            refine rget hC hK hR (ct_model G _ _) rfl uin_X10 48 (by decide) TF_X10_126 rfl dX10_closes_50 ?_
            refine lv_iload hC.x hC.b dX10_closes_53 (lv_at hl 4 rfl) ?_
            refine zald hC hK hR (ct_m_present G _ _) (nI_T n (by omega)) (by omega) (by omega) (Int.toNat_natCast _) dX10_closes_55 ?_
            have rd_121 : (s_119 71 n).toInt = 1 := (congrArg Int32.toInt (show s_119 71 n = (1 : Int32) from (by rw [es_120]; exact up2_s))).trans (by decide)
            refine bz_ne (tgt := 62) (a := (s_119 71 n).toInt) (b := 0) hC.x hC.b rfl rfl dX10_closes_56 (by decide) (fun c_122 => ?_) (fun c_122 => ?_)
            · skip
              obtain ⟨x_123, ex_124⟩ : ∃ y : Int32, y = x2 + 1 := ⟨_, rfl⟩
              refine lv_iinc (v := x_123) (lv' := [(2, .int x_123), (0, .ref (G.2.1 35)), (1, .int ra), (3, .long x3), (5, .int (nI n))]) hC.x hC.b dX10_closes_62 hl (k := 2) rfl ex_124.symm (by decide) rfl (fun ls hl => ?_)
              refine lv_aload_n hC.x hC.b dX10_closes_65 rfl (lv_at hl 1 rfl) ?_
              refine rget hC hK hR (ct_model G _ _) rfl uin_X10 22 (by decide) TF_X10_77 rfl dX10_closes_66 ?_
              refine lv_aload_n hC.x hC.b dX10_closes_69 rfl (lv_at hl 1 rfl) ?_
              refine lv_aload_n hC.x hC.b dX10_closes_70 rfl (lv_at hl 1 rfl) ?_
              refine rget hC hK hR (ct_model G _ _) rfl uin_X10 29 (by decide) TF_X10_137 rfl dX10_closes_71 ?_
              have rd_125 : (s_119 35 29).toInt = (σ 35 29).toInt := congrArg Int32.toInt (Eq.trans (show s_119 35 29 = s_110 35 29 from (by rw [es_120]; exact up2_o (by omega))) (Eq.trans (show s_110 35 29 = s1 35 29 from f_112.2 29 (by first | omega | (dsimp only; omega))) (show s1 35 29 = σ 35 29 from hi4_7.2 29 (by first | omega | (dsimp only; omega)))))
              refine lv_iload hC.x hC.b dX10_closes_74 (lv_at hl 4 rfl) ?_
              have av_126 : (nI n).toInt = (n : Int) := (nI_T n (by omega))
              refine goip (runV (As := [.int (s_119 35 29), .int (nI n)]) (rest := [.ref (G.2.1 58)]) hC hK hR hl.1 (c_X10_at l hG s_119 t_111 (s_119 35 29) (((s_119 35 29).toInt).toNat) (by first | rfl | (rw [show (s_119 35 29).toInt = (s_119 35 29).toInt from rfl]; done) | (rw [show (s_119 35 29).toInt = (s_119 35 29).toInt from rfl]; exact rfl)) (nI n) n (by first | rfl | (rw [show (nI n).toInt = (n : Int) from (nI_T n (by omega))]; done) | (rw [show (nI n).toInt = (n : Int) from (nI_T n (by omega))]; exact (Int.toNat_natCast _))) (by omega) (by omega)) (call_b hC.ts TC_X10_at TN_X10 TM_X10_140 hd_X10_at ⟨Nat.le_of_ble_eq_true rfl, Nat.le_of_ble_eq_true rfl⟩) TI_X10_at TS_X10_at (ct_model G _ _) rfl rfl rfl (Nat.le_of_ble_eq_true rfl) dX10_closes_76 ⟨Nat.le_of_ble_eq_true rfl, Nat.le_of_ble_eq_true rfl⟩) hS (fun v_127 H locs w_128 hR hS => ?_)
              subst w_128
              rw [show s_119 35 29 = (σ 35 29) from (Eq.trans (show s_119 35 29 = s_110 35 29 from (by rw [es_120]; exact up2_o (by omega))) (Eq.trans (show s_110 35 29 = s1 35 29 from f_112.2 29 (by first | omega | (dsimp only; omega))) (show s1 35 29 = σ 35 29 from hi4_7.2 29 (by first | omega | (dsimp only; omega)))))]
              refine lv_aload_n hC.x hC.b dX10_closes_79 rfl (lv_at hl 1 rfl) ?_
              refine rget hC hK hR (ct_model G _ _) rfl uin_X10 43 (by decide) TF_X10_158 rfl dX10_closes_80 ?_
              have rd_129 : (s_119 35 43).toInt = (s_110 35 43).toInt := congrArg Int32.toInt (show s_119 35 43 = s_110 35 43 from (by rw [es_120]; exact up2_o (by omega)))
              refine lv_aload_n hC.x hC.b dX10_closes_83 rfl (lv_at hl 1 rfl) ?_
              refine rget hC hK hR (ct_model G _ _) rfl uin_X10 6 (by decide) TF_X10_29 rfl dX10_closes_84 ?_
              refine lv_iload hC.x hC.b dX10_closes_87 (lv_at hl 4 rfl) ?_
              refine ald hC hK hR (ct_m_setting G _ _) (nI_T n (by omega)) (by omega) (by omega) (Int.toNat_natCast _) dX10_closes_89 ?_
              have rd_130 : (s_119 42 n).toInt = (σ 42 n).toInt := congrArg Int32.toInt (Eq.trans (show s_119 42 n = s_110 42 n from (by rw [es_120]; exact up2_o (by omega))) (Eq.trans (show s_110 42 n = s1 42 n from congrFun (f_112.1 42 (by omega) (by first | omega | (dsimp only; omega) | (intro h; exact h))) n) (show s1 42 n = σ 42 n from congrFun (hi4_7.1 42 (by omega) (by first | omega | (dsimp only; omega) | (intro h; exact h))) n)))
              refine lv_isub hC.x hC.b dX10_closes_90 ?_
              refine lv_aload_n hC.x hC.b dX10_closes_91 rfl (lv_at hl 1 rfl) ?_
              refine rget hC hK hR (ct_model G _ _) rfl uin_X10 6 (by decide) TF_X10_29 rfl dX10_closes_92 ?_
              refine lv_iload_n hC.x hC.b dX10_closes_95 rfl (lv_at hl 2 rfl) ?_
              refine ald hC hK hR (ct_m_setting G _ _) rfl (by omega) (by omega) hp_rq dX10_closes_96 ?_
              have rd_131 : (s_119 42 rq).toInt = (σ 42 rq).toInt := congrArg Int32.toInt (Eq.trans (show s_119 42 rq = s_110 42 rq from (by rw [es_120]; exact up2_o (by omega))) (Eq.trans (show s_110 42 rq = s1 42 rq from congrFun (f_112.1 42 (by omega) (by first | omega | (dsimp only; omega) | (intro h; exact h))) rq) (show s1 42 rq = σ 42 rq from congrFun (hi4_7.1 42 (by omega) (by first | omega | (dsimp only; omega) | (intro h; exact h))) rq)))
              refine lv_iadd hC.x hC.b dX10_closes_97 ?_
              refine ast hC hK hG hR hS (fun _ => ct_m_ds G _ _) (nI_T _ (by omega)) (by omega) (by omega) (Int.toNat_natCast _) dX10_closes_98 (fun s_132 es_133 H locs hR hS => ?_)
              refine lv_aload_n hC.x hC.b dX10_closes_99 rfl (lv_at hl 1 rfl) ?_
              refine rget hC hK hR (ct_model G _ _) rfl uin_X10 19 (by decide) TF_X10_68 rfl dX10_closes_100 ?_
              refine lv_aload_n hC.x hC.b dX10_closes_103 rfl (lv_at hl 1 rfl) ?_
              refine lv_aload_n hC.x hC.b dX10_closes_104 rfl (lv_at hl 1 rfl) ?_
              refine rget hC hK hR (ct_model G _ _) rfl uin_X10 29 (by decide) TF_X10_137 rfl dX10_closes_105 ?_
              have rd_134 : (s_132 35 29).toInt = (σ 35 29).toInt := congrArg Int32.toInt (Eq.trans (show s_132 35 29 = s_119 35 29 from (by rw [es_133]; exact up2_o (by omega))) (Eq.trans (show s_119 35 29 = s_110 35 29 from (by rw [es_120]; exact up2_o (by omega))) (Eq.trans (show s_110 35 29 = s1 35 29 from f_112.2 29 (by first | omega | (dsimp only; omega))) (show s1 35 29 = σ 35 29 from hi4_7.2 29 (by first | omega | (dsimp only; omega))))))
              refine lv_iload hC.x hC.b dX10_closes_108 (lv_at hl 4 rfl) ?_
              have av_135 : (nI n).toInt = (n : Int) := (nI_T n (by omega))
              refine goip (runV (As := [.int (s_132 35 29), .int (nI n)]) (rest := [.ref (G.2.1 55)]) hC hK hR hl.1 (c_X10_at l hG s_132 t_111 (s_132 35 29) (((s_132 35 29).toInt).toNat) (by first | rfl | (rw [show (s_132 35 29).toInt = (s_132 35 29).toInt from rfl]; done) | (rw [show (s_132 35 29).toInt = (s_132 35 29).toInt from rfl]; exact rfl)) (nI n) n (by first | rfl | (rw [show (nI n).toInt = (n : Int) from (nI_T n (by omega))]; done) | (rw [show (nI n).toInt = (n : Int) from (nI_T n (by omega))]; exact (Int.toNat_natCast _))) (by omega) (by omega)) (call_b hC.ts TC_X10_at TN_X10 TM_X10_140 hd_X10_at ⟨Nat.le_of_ble_eq_true rfl, Nat.le_of_ble_eq_true rfl⟩) TI_X10_at TS_X10_at (ct_model G _ _) rfl rfl rfl (Nat.le_of_ble_eq_true rfl) dX10_closes_110 ⟨Nat.le_of_ble_eq_true rfl, Nat.le_of_ble_eq_true rfl⟩) hS (fun v_136 H locs w_137 hR hS => ?_)
              subst w_137
              rw [show s_132 35 29 = (σ 35 29) from (Eq.trans (show s_132 35 29 = s_119 35 29 from (by rw [es_133]; exact up2_o (by omega))) (Eq.trans (show s_119 35 29 = s_110 35 29 from (by rw [es_120]; exact up2_o (by omega))) (Eq.trans (show s_110 35 29 = s1 35 29 from f_112.2 29 (by first | omega | (dsimp only; omega))) (show s1 35 29 = σ 35 29 from hi4_7.2 29 (by first | omega | (dsimp only; omega))))))]
              refine lv_aload_n hC.x hC.b dX10_closes_113 rfl (lv_at hl 1 rfl) ?_
              refine lv_iload hC.x hC.b dX10_closes_114 (lv_at hl 4 rfl) ?_
              have rd_138 : (s_132 36 n).toInt = (σ 36 n).toInt := congrArg Int32.toInt (Eq.trans (show s_132 36 n = s_119 36 n from (by rw [es_133]; exact up2_o (by omega))) (Eq.trans (show s_119 36 n = s_110 36 n from (by rw [es_120]; exact up2_o (by omega))) (Eq.trans (show s_110 36 n = s1 36 n from congrFun (f_112.1 36 (by omega) (by first | omega | (dsimp only; omega) | (intro h; exact h))) n) (show s1 36 n = σ 36 n from congrFun (hi4_7.1 36 (by omega) (by first | omega | (dsimp only; omega) | (intro h; exact h))) n))))
              have hcq := (show ClM s_132 from ClM.fr (S := (fun k => (41 ≤ k ∧ k ≤ 46 ∧ k ≠ 42 ∧ k ≠ 43) ∨ (52 ≤ k ∧ k ≤ 69) ∨ k = 71)) (J := (fun j => j = 37 ∨ j = 41 ∨ j = 43 ∨ j = 44)) (σ1 := s_132) hcl (by rw [es_133]; exact MRel.up ((by rw [es_120]; exact MRel.up ((MRel.tr hi4_7 (MRel.mgc f_112))) (by omega) (by first | omega | (dsimp only; omega)))) (by omega) (by first | omega | (dsimp only; omega))) (by first | omega | (dsimp only; omega)) (by first | omega | (dsimp only; omega))) n (by omega) ⟨by omega, by omega⟩
              have av_139 : (nI n).toInt = (n : Int) := (nI_T n (by omega))
              have rd_140 : (s_132 35 29).toInt = (σ 35 29).toInt := congrArg Int32.toInt (Eq.trans (show s_132 35 29 = s_119 35 29 from (by rw [es_133]; exact up2_o (by omega))) (Eq.trans (show s_119 35 29 = s_110 35 29 from (by rw [es_120]; exact up2_o (by omega))) (Eq.trans (show s_110 35 29 = s1 35 29 from f_112.2 29 (by first | omega | (dsimp only; omega))) (show s1 35 29 = σ 35 29 from hi4_7.2 29 (by first | omega | (dsimp only; omega))))))
              have rd_141 : (s_132 37 n).toInt = (σ 37 n).toInt := congrArg Int32.toInt (Eq.trans (show s_132 37 n = s_119 37 n from (by rw [es_133]; exact up2_o (by omega))) (Eq.trans (show s_119 37 n = s_110 37 n from (by rw [es_120]; exact up2_o (by omega))) (Eq.trans (show s_110 37 n = s1 37 n from congrFun (f_112.1 37 (by omega) (by first | omega | (dsimp only; omega) | (intro h; exact h))) n) (show s1 37 n = σ 37 n from congrFun (hi4_7.1 37 (by omega) (by first | omega | (dsimp only; omega) | (intro h; exact h))) n))))
              refine goi (runV (As := [.int (nI n)]) (rest := [.int (nI (24 * (σ 35 29).toInt.toNat + n)), .ref (G.2.1 55)]) hC hK hR hl.1 (c5_X10_foretold l hG s_132 t_111 (nI n) n (by first | rfl | (rw [show (nI n).toInt = (n : Int) from (nI_T n (by omega))]; done) | (rw [show (nI n).toInt = (n : Int) from (nI_T n (by omega))]; exact (Int.toNat_natCast _))) (by first | assumption | omega) (by omega) (by first | assumption | omega) (by exact XB.ex hxb (Eq.trans (show s_132 54 = s_119 54 from (by rw [es_133]; exact up2_ne (by omega))) (Eq.trans (show s_119 54 = s_110 54 from (by rw [es_120]; exact up2_ne (by omega))) (Eq.trans (show s_110 54 = s1 54 from (f_112.1 54 (by omega) (by first | omega | (dsimp only; omega) | (intro h; exact h)))) (hi3_7.1 54 (by decide) (by decide) (by decide) (by decide) (by omega))))))) (call_b hC.ts TC_X10_foretold TN_X10 TM_X10_210 hd_X10_foretold ⟨Nat.le_of_ble_eq_true rfl, Nat.le_of_ble_eq_true rfl⟩) TI_X10_foretold TS_X10_foretold (ct_model G _ _) rfl rfl rfl (Nat.le_of_ble_eq_true rfl) dX10_closes_116 ⟨Nat.le_of_ble_eq_true rfl, Nat.le_of_ble_eq_true rfl⟩) hS (fun v_142 s_144 t_145 H locs w_143 hR hS => ?_)
              try dsimp only [po5_X10_foretold] at w_143
              obtain ⟨rfl, f_146⟩ := w_143
              refine ast hC hK hG hR hS (fun _ => ct_m_fs G _ _) (nI_T _ (by omega)) (by omega) (by omega) (Int.toNat_natCast _) dX10_closes_119 (fun s_147 es_148 H locs hR hS => ?_)
              refine lv_aload_n hC.x hC.b dX10_closes_120 rfl (lv_at hl 1 rfl) ?_
              refine rget hC hK hR (ct_model G _ _) rfl uin_X10 21 (by decide) TF_X10_74 rfl dX10_closes_121 ?_
              refine lv_aload_n hC.x hC.b dX10_closes_124 rfl (lv_at hl 1 rfl) ?_
              refine lv_aload_n hC.x hC.b dX10_closes_125 rfl (lv_at hl 1 rfl) ?_
              refine rget hC hK hR (ct_model G _ _) rfl uin_X10 29 (by decide) TF_X10_137 rfl dX10_closes_126 ?_
              have rd_149 : (s_147 35 29).toInt = (σ 35 29).toInt := congrArg Int32.toInt (Eq.trans (show s_147 35 29 = s_144 35 29 from (by rw [es_148]; exact up2_o (by omega))) (Eq.trans (show s_144 35 29 = s_132 35 29 from f_146.2 29 (by first | omega | (dsimp only; omega))) (Eq.trans (show s_132 35 29 = s_119 35 29 from (by rw [es_133]; exact up2_o (by omega))) (Eq.trans (show s_119 35 29 = s_110 35 29 from (by rw [es_120]; exact up2_o (by omega))) (Eq.trans (show s_110 35 29 = s1 35 29 from f_112.2 29 (by first | omega | (dsimp only; omega))) (show s1 35 29 = σ 35 29 from hi4_7.2 29 (by first | omega | (dsimp only; omega))))))))
              refine lv_iload hC.x hC.b dX10_closes_129 (lv_at hl 4 rfl) ?_
              have av_150 : (nI n).toInt = (n : Int) := (nI_T n (by omega))
              refine goip (runV (As := [.int (s_147 35 29), .int (nI n)]) (rest := [.ref (G.2.1 57)]) hC hK hR hl.1 (c_X10_at l hG s_147 t_145 (s_147 35 29) (((s_147 35 29).toInt).toNat) (by first | rfl | (rw [show (s_147 35 29).toInt = (s_147 35 29).toInt from rfl]; done) | (rw [show (s_147 35 29).toInt = (s_147 35 29).toInt from rfl]; exact rfl)) (nI n) n (by first | rfl | (rw [show (nI n).toInt = (n : Int) from (nI_T n (by omega))]; done) | (rw [show (nI n).toInt = (n : Int) from (nI_T n (by omega))]; exact (Int.toNat_natCast _))) (by omega) (by omega)) (call_b hC.ts TC_X10_at TN_X10 TM_X10_140 hd_X10_at ⟨Nat.le_of_ble_eq_true rfl, Nat.le_of_ble_eq_true rfl⟩) TI_X10_at TS_X10_at (ct_model G _ _) rfl rfl rfl (Nat.le_of_ble_eq_true rfl) dX10_closes_131 ⟨Nat.le_of_ble_eq_true rfl, Nat.le_of_ble_eq_true rfl⟩) hS (fun v_151 H locs w_152 hR hS => ?_)
              subst w_152
              rw [show s_147 35 29 = (σ 35 29) from (Eq.trans (show s_147 35 29 = s_144 35 29 from (by rw [es_148]; exact up2_o (by omega))) (Eq.trans (show s_144 35 29 = s_132 35 29 from f_146.2 29 (by first | omega | (dsimp only; omega))) (Eq.trans (show s_132 35 29 = s_119 35 29 from (by rw [es_133]; exact up2_o (by omega))) (Eq.trans (show s_119 35 29 = s_110 35 29 from (by rw [es_120]; exact up2_o (by omega))) (Eq.trans (show s_110 35 29 = s1 35 29 from f_112.2 29 (by first | omega | (dsimp only; omega))) (show s1 35 29 = σ 35 29 from hi4_7.2 29 (by first | omega | (dsimp only; omega))))))))]
              refine lv_aload_n hC.x hC.b dX10_closes_134 rfl (lv_at hl 1 rfl) ?_
              refine lv_iload hC.x hC.b dX10_closes_135 (lv_at hl 4 rfl) ?_
              have rd_153 : (s_147 36 n).toInt = (σ 36 n).toInt := congrArg Int32.toInt (Eq.trans (show s_147 36 n = s_144 36 n from (by rw [es_148]; exact up2_o (by omega))) (Eq.trans (show s_144 36 n = s_132 36 n from congrFun (f_146.1 36 (by omega) (by first | omega | (dsimp only; omega) | (intro h; exact h))) n) (Eq.trans (show s_132 36 n = s_119 36 n from (by rw [es_133]; exact up2_o (by omega))) (Eq.trans (show s_119 36 n = s_110 36 n from (by rw [es_120]; exact up2_o (by omega))) (Eq.trans (show s_110 36 n = s1 36 n from congrFun (f_112.1 36 (by omega) (by first | omega | (dsimp only; omega) | (intro h; exact h))) n) (show s1 36 n = σ 36 n from congrFun (hi4_7.1 36 (by omega) (by first | omega | (dsimp only; omega) | (intro h; exact h))) n))))))
              have hcq := (show ClM s_147 from ClM.fr (S := (fun k => (41 ≤ k ∧ k ≤ 46 ∧ k ≠ 42 ∧ k ≠ 43) ∨ (52 ≤ k ∧ k ≤ 69) ∨ k = 71)) (J := (fun j => j = 37 ∨ j = 41 ∨ j = 43 ∨ j = 44)) (σ1 := s_147) hcl (by rw [es_148]; exact MRel.up ((MRel.tr (by rw [es_133]; exact MRel.up ((by rw [es_120]; exact MRel.up ((MRel.tr hi4_7 (MRel.mgc f_112))) (by omega) (by first | omega | (dsimp only; omega)))) (by omega) (by first | omega | (dsimp only; omega))) (MRel.mfc f_146))) (by omega) (by first | omega | (dsimp only; omega))) (by first | omega | (dsimp only; omega)) (by first | omega | (dsimp only; omega))) n (by omega) ⟨by omega, by omega⟩
              have hc6n := hc6 n (by omega) ⟨by omega, by omega⟩
              have av_154 : (nI n).toInt = (n : Int) := (nI_T n (by omega))
              have rd_155 : (s_147 35 29).toInt = (σ 35 29).toInt := congrArg Int32.toInt (Eq.trans (show s_147 35 29 = s_144 35 29 from (by rw [es_148]; exact up2_o (by omega))) (Eq.trans (show s_144 35 29 = s_132 35 29 from f_146.2 29 (by first | omega | (dsimp only; omega))) (Eq.trans (show s_132 35 29 = s_119 35 29 from (by rw [es_133]; exact up2_o (by omega))) (Eq.trans (show s_119 35 29 = s_110 35 29 from (by rw [es_120]; exact up2_o (by omega))) (Eq.trans (show s_110 35 29 = s1 35 29 from f_112.2 29 (by first | omega | (dsimp only; omega))) (show s1 35 29 = σ 35 29 from hi4_7.2 29 (by first | omega | (dsimp only; omega))))))))
              have rd_156 : (s_147 37 n).toInt = (σ 37 n).toInt := congrArg Int32.toInt (Eq.trans (show s_147 37 n = s_144 37 n from (by rw [es_148]; exact up2_o (by omega))) (Eq.trans (show s_144 37 n = s_132 37 n from congrFun (f_146.1 37 (by omega) (by first | omega | (dsimp only; omega) | (intro h; exact h))) n) (Eq.trans (show s_132 37 n = s_119 37 n from (by rw [es_133]; exact up2_o (by omega))) (Eq.trans (show s_119 37 n = s_110 37 n from (by rw [es_120]; exact up2_o (by omega))) (Eq.trans (show s_110 37 n = s1 37 n from congrFun (f_112.1 37 (by omega) (by first | omega | (dsimp only; omega) | (intro h; exact h))) n) (show s1 37 n = σ 37 n from congrFun (hi4_7.1 37 (by omega) (by first | omega | (dsimp only; omega) | (intro h; exact h))) n))))))
              have rd_157 : (s_147 38 n).toInt = (σ 38 n).toInt := congrArg Int32.toInt (Eq.trans (show s_147 38 n = s_144 38 n from (by rw [es_148]; exact up2_o (by omega))) (Eq.trans (show s_144 38 n = s_132 38 n from congrFun (f_146.1 38 (by omega) (by first | omega | (dsimp only; omega) | (intro h; exact h))) n) (Eq.trans (show s_132 38 n = s_119 38 n from (by rw [es_133]; exact up2_o (by omega))) (Eq.trans (show s_119 38 n = s_110 38 n from (by rw [es_120]; exact up2_o (by omega))) (Eq.trans (show s_110 38 n = s1 38 n from congrFun (f_112.1 38 (by omega) (by first | omega | (dsimp only; omega) | (intro h; exact h))) n) (show s1 38 n = σ 38 n from congrFun (hi4_7.1 38 (by omega) (by first | omega | (dsimp only; omega) | (intro h; exact h))) n))))))
              refine goi (runV (As := [.int (nI n)]) (rest := [.int (nI (24 * (σ 35 29).toInt.toNat + n)), .ref (G.2.1 57)]) hC hK hR hl.1 (c5_X10_full l hG s_147 t_145 (nI n) n (by first | rfl | (rw [show (nI n).toInt = (n : Int) from (nI_T n (by omega))]; done) | (rw [show (nI n).toInt = (n : Int) from (nI_T n (by omega))]; exact (Int.toNat_natCast _))) (by first | assumption | omega) (by omega) (by first | assumption | omega) (by exact (by rw [es_148]; exact KM.up (KM.fr (by rw [es_133]; exact KM.up (by rw [es_120]; exact KM.u71 (KM.fr hi0_7 f_112 (by first | omega | (dsimp only; omega) | exact fun q => q) (by first | omega | (dsimp only; omega) | exact fun q => q) (by first | omega | (dsimp only; omega) | exact fun q => q) (by first | omega | (dsimp only; omega))) (by decide)) (by omega)) f_146 (by first | omega | (dsimp only; omega) | exact fun q => q) (by first | omega | (dsimp only; omega) | exact fun q => q) (by first | omega | (dsimp only; omega) | exact fun q => q) (by first | omega | (dsimp only; omega))) (by omega))) (by exact XB.ex hxb (Eq.trans (show s_147 54 = s_144 54 from (by rw [es_148]; exact up2_ne (by omega))) (Eq.trans (show s_144 54 = s_132 54 from (f_146.1 54 (by omega) (by first | omega | (dsimp only; omega) | (intro h; exact h)))) (Eq.trans (show s_132 54 = s_119 54 from (by rw [es_133]; exact up2_ne (by omega))) (Eq.trans (show s_119 54 = s_110 54 from (by rw [es_120]; exact up2_ne (by omega))) (Eq.trans (show s_110 54 = s1 54 from (f_112.1 54 (by omega) (by first | omega | (dsimp only; omega) | (intro h; exact h)))) (hi3_7.1 54 (by decide) (by decide) (by decide) (by decide) (by omega)))))))) (by omega)) (call_b hC.ts TC_X10_full TN_X10 TM_X10_225 hd_X10_full ⟨Nat.le_of_ble_eq_true rfl, Nat.le_of_ble_eq_true rfl⟩) TI_X10_full TS_X10_full (ct_model G _ _) rfl rfl rfl (Nat.le_of_ble_eq_true rfl) dX10_closes_137 ⟨Nat.le_of_ble_eq_true rfl, Nat.le_of_ble_eq_true rfl⟩) hS (fun v_158 s_160 t_161 H locs w_159 hR hS => ?_)
              try dsimp only [po5_X10_full] at w_159
              obtain ⟨rfl, f_162⟩ := w_159
              refine ast hC hK hG hR hS (fun _ => ct_m_ws G _ _) (nI_T _ (by omega)) (by omega) (by omega) (Int.toNat_natCast _) dX10_closes_140 (fun s_163 es_164 H locs hR hS => ?_)
              refine lv_lload_n hC.x hC.b dX10_closes_141 rfl (lv_at hl 3 rfl) ?_
              refine lv_aload_n hC.x hC.b dX10_closes_142 rfl (lv_at hl 1 rfl) ?_
              refine rget hC hK hR (ct_model G _ _) rfl uin_X10 21 (by decide) TF_X10_74 rfl dX10_closes_143 ?_
              refine lv_aload_n hC.x hC.b dX10_closes_146 rfl (lv_at hl 1 rfl) ?_
              refine lv_aload_n hC.x hC.b dX10_closes_147 rfl (lv_at hl 1 rfl) ?_
              refine rget hC hK hR (ct_model G _ _) rfl uin_X10 29 (by decide) TF_X10_137 rfl dX10_closes_148 ?_
              have rd_165 : (s_163 35 29).toInt = (σ 35 29).toInt := congrArg Int32.toInt (Eq.trans (show s_163 35 29 = s_160 35 29 from (by rw [es_164]; exact up2_o (by omega))) (Eq.trans (show s_160 35 29 = s_147 35 29 from f_162.2 29 (by first | omega | (dsimp only; omega))) (Eq.trans (show s_147 35 29 = s_144 35 29 from (by rw [es_148]; exact up2_o (by omega))) (Eq.trans (show s_144 35 29 = s_132 35 29 from f_146.2 29 (by first | omega | (dsimp only; omega))) (Eq.trans (show s_132 35 29 = s_119 35 29 from (by rw [es_133]; exact up2_o (by omega))) (Eq.trans (show s_119 35 29 = s_110 35 29 from (by rw [es_120]; exact up2_o (by omega))) (Eq.trans (show s_110 35 29 = s1 35 29 from f_112.2 29 (by first | omega | (dsimp only; omega))) (show s1 35 29 = σ 35 29 from hi4_7.2 29 (by first | omega | (dsimp only; omega))))))))))
              refine lv_iload hC.x hC.b dX10_closes_151 (lv_at hl 4 rfl) ?_
              have av_166 : (nI n).toInt = (n : Int) := (nI_T n (by omega))
              refine goip (runV (As := [.int (s_163 35 29), .int (nI n)]) (rest := [.ref (G.2.1 57), .long x3]) hC hK hR hl.1 (c_X10_at l hG s_163 t_161 (s_163 35 29) (((s_163 35 29).toInt).toNat) (by first | rfl | (rw [show (s_163 35 29).toInt = (s_163 35 29).toInt from rfl]; done) | (rw [show (s_163 35 29).toInt = (s_163 35 29).toInt from rfl]; exact rfl)) (nI n) n (by first | rfl | (rw [show (nI n).toInt = (n : Int) from (nI_T n (by omega))]; done) | (rw [show (nI n).toInt = (n : Int) from (nI_T n (by omega))]; exact (Int.toNat_natCast _))) (by omega) (by omega)) (call_b hC.ts TC_X10_at TN_X10 TM_X10_140 hd_X10_at ⟨Nat.le_of_ble_eq_true rfl, Nat.le_of_ble_eq_true rfl⟩) TI_X10_at TS_X10_at (ct_model G _ _) rfl rfl rfl (Nat.le_of_ble_eq_true rfl) dX10_closes_153 ⟨Nat.le_of_ble_eq_true rfl, Nat.le_of_ble_eq_true rfl⟩) hS (fun v_167 H locs w_168 hR hS => ?_)
              subst w_168
              rw [show s_163 35 29 = (σ 35 29) from (Eq.trans (show s_163 35 29 = s_160 35 29 from (by rw [es_164]; exact up2_o (by omega))) (Eq.trans (show s_160 35 29 = s_147 35 29 from f_162.2 29 (by first | omega | (dsimp only; omega))) (Eq.trans (show s_147 35 29 = s_144 35 29 from (by rw [es_148]; exact up2_o (by omega))) (Eq.trans (show s_144 35 29 = s_132 35 29 from f_146.2 29 (by first | omega | (dsimp only; omega))) (Eq.trans (show s_132 35 29 = s_119 35 29 from (by rw [es_133]; exact up2_o (by omega))) (Eq.trans (show s_119 35 29 = s_110 35 29 from (by rw [es_120]; exact up2_o (by omega))) (Eq.trans (show s_110 35 29 = s1 35 29 from f_112.2 29 (by first | omega | (dsimp only; omega))) (show s1 35 29 = σ 35 29 from hi4_7.2 29 (by first | omega | (dsimp only; omega))))))))))]
              refine ald hC hK hR (ct_m_ws G _ _) (nI_T _ (by omega)) (by omega) (by omega) (Int.toNat_natCast _) dX10_closes_156 ?_
              have rd_169 : (s_163 57 (24 * (σ 35 29).toInt.toNat + n)).toInt = (FW6 (s_147 41 n).toInt (FT (pX s_147 n) (s_147 37 n).toInt (s_147 35 29).toInt (s_147 36 n).toInt) (pM s_147 n) (s_147 38 n).toInt (s_147 35 29).toInt).toInt := congrArg Int32.toInt (show s_163 57 (24 * (σ 35 29).toInt.toNat + n) = (FW6 (s_147 41 n).toInt (FT (pX s_147 n) (s_147 37 n).toInt (s_147 35 29).toInt (s_147 36 n).toInt) (pM s_147 n) (s_147 38 n).toInt (s_147 35 29).toInt) from (by rw [es_164]; exact up2_s))
              refine lv_i2l hC.x hC.b dX10_closes_157 rfl ?_
              refine lv_ladd hC.x hC.b dX10_closes_158 ?_
              refine lv_topl (fun x_170 ex_171 => ?_)
              refine lv_lstore_n (lv' := [(3, .long x_170), (2, .int x_123), (0, .ref (G.2.1 35)), (1, .int ra), (5, .int (nI n))]) hC.x hC.b dX10_closes_159 rfl hl (by decide) rfl (fun ls hl => ?_)
              refine lv_iinc (v := nI (n + 1)) (lv' := [(5, .int (nI (n + 1))), (3, .long x_170), (2, .int x_123), (0, .ref (G.2.1 35)), (1, .int ra)]) hC.x hC.b dX10_closes_160 hl (k := 4) rfl (nI_succ _).symm (by decide) rfl (fun ls hl => ?_)
              refine lv_goto (tgt := 7) hC.x hC.b dX10_closes_163 (by decide) ?_
              exact ih_7 x_123 x_170 (n + 1) s_163 t_161 (by omega) (by exact (by rw [es_164]; exact KM.up (KM.fr (by rw [es_148]; exact KM.up (KM.fr (by rw [es_133]; exact KM.up (by rw [es_120]; exact KM.u71 (KM.fr hi0_7 f_112 (by first | omega | (dsimp only; omega) | exact fun q => q) (by first | omega | (dsimp only; omega) | exact fun q => q) (by first | omega | (dsimp only; omega) | exact fun q => q) (by first | omega | (dsimp only; omega))) (by decide)) (by omega)) f_146 (by first | omega | (dsimp only; omega) | exact fun q => q) (by first | omega | (dsimp only; omega) | exact fun q => q) (by first | omega | (dsimp only; omega) | exact fun q => q) (by first | omega | (dsimp only; omega))) (by omega)) f_162 (by first | omega | (dsimp only; omega) | exact fun q => q) (by first | omega | (dsimp only; omega) | exact fun q => q) (by first | omega | (dsimp only; omega) | exact fun q => q) (by first | omega | (dsimp only; omega))) (by omega))) (by first | omega | assumption) (by first | exact CntR.p hi2_7 (pm_mk (K6.mr hi4_7 (by intro k h1 h2; first | omega | (dsimp only at h2; omega)) (by omega)) ⟨by omega, by omega, by omega, by omega⟩ (by assumption)) (by assumption) | exact CntR.q hi2_7 (qm_0 (K6.mr hi4_7 (by intro k h1 h2; first | omega | (dsimp only at h2; omega)) (by omega)) (by rintro ⟨h1, h2, h3, h4⟩; omega)) | exact CntR.q hi2_7 (qm_1 (K6.mr hi4_7 (by intro k h1 h2; first | omega | (dsimp only at h2; omega)) (by omega)) (by assumption)) | (exfalso; omega)) (by first | exact MA6.p hi3_7 (by omega) f_112 es_120 es_133 f_146 es_148 f_162 es_164 rfl rfl rfl rfl ((TkM_x (K6.mr hi4_7 (by intro k h1 h2; first | omega | (dsimp only at h2; omega)) (by omega))).mp ⟨by omega, by omega, by omega, by omega⟩) (go_s (K6.mr hi4_7 (by intro k h1 h2; first | omega | (dsimp only at h2; omega)) (by omega)) (by assumption)) ex_171 | (exfalso; omega)) (by rw [es_164]; exact MRel.up ((MRel.tr (by rw [es_148]; exact MRel.up ((MRel.tr (by rw [es_133]; exact MRel.up ((by rw [es_120]; exact MRel.up ((MRel.tr hi4_7 (MRel.mgc f_112))) (by omega) (by first | omega | (dsimp only; omega)))) (by omega) (by first | omega | (dsimp only; omega))) (MRel.mfc f_146))) (by omega) (by first | omega | (dsimp only; omega))) (MRel.mfc f_162))) (by omega) (by first | omega | (dsimp only; omega))) _ _ _ hR hS (lv_sub hl [3, 4, 2, 1, 0] rfl)
            · skip
              refine lv_goto (tgt := 160) hC.x hC.b dX10_closes_59 (by decide) ?_
              refine lv_iinc (v := nI (n + 1)) (lv' := [(5, .int (nI (n + 1))), (0, .ref (G.2.1 35)), (1, .int ra), (2, .int x2), (3, .long x3)]) hC.x hC.b dX10_closes_160 hl (k := 4) rfl (nI_succ _).symm (by decide) rfl (fun ls hl => ?_)
              refine lv_goto (tgt := 7) hC.x hC.b dX10_closes_163 (by decide) ?_
              exact ih_7 x2 x3 (n + 1) s_119 t_111 (by omega) (by exact (by rw [es_120]; exact KM.u71 (KM.fr hi0_7 f_112 (by first | omega | (dsimp only; omega) | exact fun q => q) (by first | omega | (dsimp only; omega) | exact fun q => q) (by first | omega | (dsimp only; omega) | exact fun q => q) (by first | omega | (dsimp only; omega))) (by decide))) (by first | omega | assumption) (by first | exact CntR.p hi2_7 (pm_mk (K6.mr hi4_7 (by intro k h1 h2; first | omega | (dsimp only at h2; omega)) (by omega)) ⟨by omega, by omega, by omega, by omega⟩ (by assumption)) (by assumption) | exact CntR.q hi2_7 (qm_0 (K6.mr hi4_7 (by intro k h1 h2; first | omega | (dsimp only at h2; omega)) (by omega)) (by rintro ⟨h1, h2, h3, h4⟩; omega)) | exact CntR.q hi2_7 (qm_1 (K6.mr hi4_7 (by intro k h1 h2; first | omega | (dsimp only at h2; omega)) (by omega)) (by assumption)) | (exfalso; omega)) (by first | exact MA6.q hi3_7 f_112 es_120 (qm_1 (K6.mr hi4_7 (by intro k h1 h2; first | omega | (dsimp only at h2; omega)) (by omega)) (by assumption)) | (exfalso; omega)) (by rw [es_120]; exact MRel.up ((MRel.tr hi4_7 (MRel.mgc f_112))) (by omega) (by first | omega | (dsimp only; omega))) _ _ _ hR hS (lv_sub hl [1, 2, 3, 4, 0] rfl)
          · skip
            refine bz_eq (tgt := 47) (a := 0) (b := 0) hC.x hC.b rfl rfl dX10_closes_40 (by decide) (fun _ => ?_) (fun c_172 => absurd c_172 (by decide))
            refine lv_iconst (v := 0) hC.x hC.b dX10_closes_47 (by decide) ?_
            refine zast hC hK hG hR hS (fun _ => ct_m_present G _ _) (nI_T n (by omega)) (by omega) (by omega) (Int.toNat_natCast _) (Or.inl rfl) dX10_closes_48 (fun s_173 es_174 H locs hR hS => ?_)
            refine lv_aload_n hC.x hC.b dX10_closes_49 rfl (lv_at hl 0 rfl) ?_
            refine rget hC hK hR (ct_model G _ _) rfl uin_X10 48 (by decide) TF_X10_126 rfl dX10_closes_50 ?_
            refine lv_iload hC.x hC.b dX10_closes_53 (lv_at hl 4 rfl) ?_
            refine zald hC hK hR (ct_m_present G _ _) (nI_T n (by omega)) (by omega) (by omega) (Int.toNat_natCast _) dX10_closes_55 ?_
            have rd_175 : (s_173 71 n).toInt = 0 := (congrArg Int32.toInt (show s_173 71 n = (0 : Int32) from (by rw [es_174]; exact up2_s))).trans (by decide)
            refine bz_ne (tgt := 62) (a := (s_173 71 n).toInt) (b := 0) hC.x hC.b rfl rfl dX10_closes_56 (by decide) (fun c_176 => ?_) (fun c_176 => ?_)
            · skip
              obtain ⟨x_177, ex_178⟩ : ∃ y : Int32, y = x2 + 1 := ⟨_, rfl⟩
              refine lv_iinc (v := x_177) (lv' := [(2, .int x_177), (0, .ref (G.2.1 35)), (1, .int ra), (3, .long x3), (5, .int (nI n))]) hC.x hC.b dX10_closes_62 hl (k := 2) rfl ex_178.symm (by decide) rfl (fun ls hl => ?_)
              refine lv_aload_n hC.x hC.b dX10_closes_65 rfl (lv_at hl 1 rfl) ?_
              refine rget hC hK hR (ct_model G _ _) rfl uin_X10 22 (by decide) TF_X10_77 rfl dX10_closes_66 ?_
              refine lv_aload_n hC.x hC.b dX10_closes_69 rfl (lv_at hl 1 rfl) ?_
              refine lv_aload_n hC.x hC.b dX10_closes_70 rfl (lv_at hl 1 rfl) ?_
              refine rget hC hK hR (ct_model G _ _) rfl uin_X10 29 (by decide) TF_X10_137 rfl dX10_closes_71 ?_
              have rd_179 : (s_173 35 29).toInt = (σ 35 29).toInt := congrArg Int32.toInt (Eq.trans (show s_173 35 29 = s_110 35 29 from (by rw [es_174]; exact up2_o (by omega))) (Eq.trans (show s_110 35 29 = s1 35 29 from f_115.2 29 (by first | omega | (dsimp only; omega))) (show s1 35 29 = σ 35 29 from hi4_7.2 29 (by first | omega | (dsimp only; omega)))))
              refine lv_iload hC.x hC.b dX10_closes_74 (lv_at hl 4 rfl) ?_
              have av_180 : (nI n).toInt = (n : Int) := (nI_T n (by omega))
              refine goip (runV (As := [.int (s_173 35 29), .int (nI n)]) (rest := [.ref (G.2.1 58)]) hC hK hR hl.1 (c_X10_at l hG s_173 t_111 (s_173 35 29) (((s_173 35 29).toInt).toNat) (by first | rfl | (rw [show (s_173 35 29).toInt = (s_173 35 29).toInt from rfl]; done) | (rw [show (s_173 35 29).toInt = (s_173 35 29).toInt from rfl]; exact rfl)) (nI n) n (by first | rfl | (rw [show (nI n).toInt = (n : Int) from (nI_T n (by omega))]; done) | (rw [show (nI n).toInt = (n : Int) from (nI_T n (by omega))]; exact (Int.toNat_natCast _))) (by omega) (by omega)) (call_b hC.ts TC_X10_at TN_X10 TM_X10_140 hd_X10_at ⟨Nat.le_of_ble_eq_true rfl, Nat.le_of_ble_eq_true rfl⟩) TI_X10_at TS_X10_at (ct_model G _ _) rfl rfl rfl (Nat.le_of_ble_eq_true rfl) dX10_closes_76 ⟨Nat.le_of_ble_eq_true rfl, Nat.le_of_ble_eq_true rfl⟩) hS (fun v_181 H locs w_182 hR hS => ?_)
              subst w_182
              rw [show s_173 35 29 = (σ 35 29) from (Eq.trans (show s_173 35 29 = s_110 35 29 from (by rw [es_174]; exact up2_o (by omega))) (Eq.trans (show s_110 35 29 = s1 35 29 from f_115.2 29 (by first | omega | (dsimp only; omega))) (show s1 35 29 = σ 35 29 from hi4_7.2 29 (by first | omega | (dsimp only; omega)))))]
              refine lv_aload_n hC.x hC.b dX10_closes_79 rfl (lv_at hl 1 rfl) ?_
              refine rget hC hK hR (ct_model G _ _) rfl uin_X10 43 (by decide) TF_X10_158 rfl dX10_closes_80 ?_
              have rd_183 : (s_173 35 43).toInt = (s_110 35 43).toInt := congrArg Int32.toInt (show s_173 35 43 = s_110 35 43 from (by rw [es_174]; exact up2_o (by omega)))
              refine lv_aload_n hC.x hC.b dX10_closes_83 rfl (lv_at hl 1 rfl) ?_
              refine rget hC hK hR (ct_model G _ _) rfl uin_X10 6 (by decide) TF_X10_29 rfl dX10_closes_84 ?_
              refine lv_iload hC.x hC.b dX10_closes_87 (lv_at hl 4 rfl) ?_
              refine ald hC hK hR (ct_m_setting G _ _) (nI_T n (by omega)) (by omega) (by omega) (Int.toNat_natCast _) dX10_closes_89 ?_
              have rd_184 : (s_173 42 n).toInt = (σ 42 n).toInt := congrArg Int32.toInt (Eq.trans (show s_173 42 n = s_110 42 n from (by rw [es_174]; exact up2_o (by omega))) (Eq.trans (show s_110 42 n = s1 42 n from congrFun (f_115.1 42 (by omega) (by first | omega | (dsimp only; omega) | (intro h; exact h))) n) (show s1 42 n = σ 42 n from congrFun (hi4_7.1 42 (by omega) (by first | omega | (dsimp only; omega) | (intro h; exact h))) n)))
              refine lv_isub hC.x hC.b dX10_closes_90 ?_
              refine lv_aload_n hC.x hC.b dX10_closes_91 rfl (lv_at hl 1 rfl) ?_
              refine rget hC hK hR (ct_model G _ _) rfl uin_X10 6 (by decide) TF_X10_29 rfl dX10_closes_92 ?_
              refine lv_iload_n hC.x hC.b dX10_closes_95 rfl (lv_at hl 2 rfl) ?_
              refine ald hC hK hR (ct_m_setting G _ _) rfl (by omega) (by omega) hp_rq dX10_closes_96 ?_
              have rd_185 : (s_173 42 rq).toInt = (σ 42 rq).toInt := congrArg Int32.toInt (Eq.trans (show s_173 42 rq = s_110 42 rq from (by rw [es_174]; exact up2_o (by omega))) (Eq.trans (show s_110 42 rq = s1 42 rq from congrFun (f_115.1 42 (by omega) (by first | omega | (dsimp only; omega) | (intro h; exact h))) rq) (show s1 42 rq = σ 42 rq from congrFun (hi4_7.1 42 (by omega) (by first | omega | (dsimp only; omega) | (intro h; exact h))) rq)))
              refine lv_iadd hC.x hC.b dX10_closes_97 ?_
              refine ast hC hK hG hR hS (fun _ => ct_m_ds G _ _) (nI_T _ (by omega)) (by omega) (by omega) (Int.toNat_natCast _) dX10_closes_98 (fun s_186 es_187 H locs hR hS => ?_)
              refine lv_aload_n hC.x hC.b dX10_closes_99 rfl (lv_at hl 1 rfl) ?_
              refine rget hC hK hR (ct_model G _ _) rfl uin_X10 19 (by decide) TF_X10_68 rfl dX10_closes_100 ?_
              refine lv_aload_n hC.x hC.b dX10_closes_103 rfl (lv_at hl 1 rfl) ?_
              refine lv_aload_n hC.x hC.b dX10_closes_104 rfl (lv_at hl 1 rfl) ?_
              refine rget hC hK hR (ct_model G _ _) rfl uin_X10 29 (by decide) TF_X10_137 rfl dX10_closes_105 ?_
              have rd_188 : (s_186 35 29).toInt = (σ 35 29).toInt := congrArg Int32.toInt (Eq.trans (show s_186 35 29 = s_173 35 29 from (by rw [es_187]; exact up2_o (by omega))) (Eq.trans (show s_173 35 29 = s_110 35 29 from (by rw [es_174]; exact up2_o (by omega))) (Eq.trans (show s_110 35 29 = s1 35 29 from f_115.2 29 (by first | omega | (dsimp only; omega))) (show s1 35 29 = σ 35 29 from hi4_7.2 29 (by first | omega | (dsimp only; omega))))))
              refine lv_iload hC.x hC.b dX10_closes_108 (lv_at hl 4 rfl) ?_
              have av_189 : (nI n).toInt = (n : Int) := (nI_T n (by omega))
              refine goip (runV (As := [.int (s_186 35 29), .int (nI n)]) (rest := [.ref (G.2.1 55)]) hC hK hR hl.1 (c_X10_at l hG s_186 t_111 (s_186 35 29) (((s_186 35 29).toInt).toNat) (by first | rfl | (rw [show (s_186 35 29).toInt = (s_186 35 29).toInt from rfl]; done) | (rw [show (s_186 35 29).toInt = (s_186 35 29).toInt from rfl]; exact rfl)) (nI n) n (by first | rfl | (rw [show (nI n).toInt = (n : Int) from (nI_T n (by omega))]; done) | (rw [show (nI n).toInt = (n : Int) from (nI_T n (by omega))]; exact (Int.toNat_natCast _))) (by omega) (by omega)) (call_b hC.ts TC_X10_at TN_X10 TM_X10_140 hd_X10_at ⟨Nat.le_of_ble_eq_true rfl, Nat.le_of_ble_eq_true rfl⟩) TI_X10_at TS_X10_at (ct_model G _ _) rfl rfl rfl (Nat.le_of_ble_eq_true rfl) dX10_closes_110 ⟨Nat.le_of_ble_eq_true rfl, Nat.le_of_ble_eq_true rfl⟩) hS (fun v_190 H locs w_191 hR hS => ?_)
              subst w_191
              rw [show s_186 35 29 = (σ 35 29) from (Eq.trans (show s_186 35 29 = s_173 35 29 from (by rw [es_187]; exact up2_o (by omega))) (Eq.trans (show s_173 35 29 = s_110 35 29 from (by rw [es_174]; exact up2_o (by omega))) (Eq.trans (show s_110 35 29 = s1 35 29 from f_115.2 29 (by first | omega | (dsimp only; omega))) (show s1 35 29 = σ 35 29 from hi4_7.2 29 (by first | omega | (dsimp only; omega))))))]
              refine lv_aload_n hC.x hC.b dX10_closes_113 rfl (lv_at hl 1 rfl) ?_
              refine lv_iload hC.x hC.b dX10_closes_114 (lv_at hl 4 rfl) ?_
              have rd_192 : (s_186 36 n).toInt = (σ 36 n).toInt := congrArg Int32.toInt (Eq.trans (show s_186 36 n = s_173 36 n from (by rw [es_187]; exact up2_o (by omega))) (Eq.trans (show s_173 36 n = s_110 36 n from (by rw [es_174]; exact up2_o (by omega))) (Eq.trans (show s_110 36 n = s1 36 n from congrFun (f_115.1 36 (by omega) (by first | omega | (dsimp only; omega) | (intro h; exact h))) n) (show s1 36 n = σ 36 n from congrFun (hi4_7.1 36 (by omega) (by first | omega | (dsimp only; omega) | (intro h; exact h))) n))))
              have hcq := (show ClM s_186 from ClM.fr (S := (fun k => (41 ≤ k ∧ k ≤ 46 ∧ k ≠ 42 ∧ k ≠ 43) ∨ (52 ≤ k ∧ k ≤ 69) ∨ k = 71)) (J := (fun j => j = 37 ∨ j = 41 ∨ j = 43 ∨ j = 44)) (σ1 := s_186) hcl (by rw [es_187]; exact MRel.up ((by rw [es_174]; exact MRel.up ((MRel.tr hi4_7 (MRel.mgc f_115))) (by omega) (by first | omega | (dsimp only; omega)))) (by omega) (by first | omega | (dsimp only; omega))) (by first | omega | (dsimp only; omega)) (by first | omega | (dsimp only; omega))) n (by omega) ⟨by omega, by omega⟩
              have av_193 : (nI n).toInt = (n : Int) := (nI_T n (by omega))
              have rd_194 : (s_186 35 29).toInt = (σ 35 29).toInt := congrArg Int32.toInt (Eq.trans (show s_186 35 29 = s_173 35 29 from (by rw [es_187]; exact up2_o (by omega))) (Eq.trans (show s_173 35 29 = s_110 35 29 from (by rw [es_174]; exact up2_o (by omega))) (Eq.trans (show s_110 35 29 = s1 35 29 from f_115.2 29 (by first | omega | (dsimp only; omega))) (show s1 35 29 = σ 35 29 from hi4_7.2 29 (by first | omega | (dsimp only; omega))))))
              have rd_195 : (s_186 37 n).toInt = (σ 37 n).toInt := congrArg Int32.toInt (Eq.trans (show s_186 37 n = s_173 37 n from (by rw [es_187]; exact up2_o (by omega))) (Eq.trans (show s_173 37 n = s_110 37 n from (by rw [es_174]; exact up2_o (by omega))) (Eq.trans (show s_110 37 n = s1 37 n from congrFun (f_115.1 37 (by omega) (by first | omega | (dsimp only; omega) | (intro h; exact h))) n) (show s1 37 n = σ 37 n from congrFun (hi4_7.1 37 (by omega) (by first | omega | (dsimp only; omega) | (intro h; exact h))) n))))
              refine goi (runV (As := [.int (nI n)]) (rest := [.int (nI (24 * (σ 35 29).toInt.toNat + n)), .ref (G.2.1 55)]) hC hK hR hl.1 (c5_X10_foretold l hG s_186 t_111 (nI n) n (by first | rfl | (rw [show (nI n).toInt = (n : Int) from (nI_T n (by omega))]; done) | (rw [show (nI n).toInt = (n : Int) from (nI_T n (by omega))]; exact (Int.toNat_natCast _))) (by first | assumption | omega) (by omega) (by first | assumption | omega) (by exact XB.ex hxb (Eq.trans (show s_186 54 = s_173 54 from (by rw [es_187]; exact up2_ne (by omega))) (Eq.trans (show s_173 54 = s_110 54 from (by rw [es_174]; exact up2_ne (by omega))) (Eq.trans (show s_110 54 = s1 54 from (f_115.1 54 (by omega) (by first | omega | (dsimp only; omega) | (intro h; exact h)))) (hi3_7.1 54 (by decide) (by decide) (by decide) (by decide) (by omega))))))) (call_b hC.ts TC_X10_foretold TN_X10 TM_X10_210 hd_X10_foretold ⟨Nat.le_of_ble_eq_true rfl, Nat.le_of_ble_eq_true rfl⟩) TI_X10_foretold TS_X10_foretold (ct_model G _ _) rfl rfl rfl (Nat.le_of_ble_eq_true rfl) dX10_closes_116 ⟨Nat.le_of_ble_eq_true rfl, Nat.le_of_ble_eq_true rfl⟩) hS (fun v_196 s_198 t_199 H locs w_197 hR hS => ?_)
              try dsimp only [po5_X10_foretold] at w_197
              obtain ⟨rfl, f_200⟩ := w_197
              refine ast hC hK hG hR hS (fun _ => ct_m_fs G _ _) (nI_T _ (by omega)) (by omega) (by omega) (Int.toNat_natCast _) dX10_closes_119 (fun s_201 es_202 H locs hR hS => ?_)
              refine lv_aload_n hC.x hC.b dX10_closes_120 rfl (lv_at hl 1 rfl) ?_
              refine rget hC hK hR (ct_model G _ _) rfl uin_X10 21 (by decide) TF_X10_74 rfl dX10_closes_121 ?_
              refine lv_aload_n hC.x hC.b dX10_closes_124 rfl (lv_at hl 1 rfl) ?_
              refine lv_aload_n hC.x hC.b dX10_closes_125 rfl (lv_at hl 1 rfl) ?_
              refine rget hC hK hR (ct_model G _ _) rfl uin_X10 29 (by decide) TF_X10_137 rfl dX10_closes_126 ?_
              have rd_203 : (s_201 35 29).toInt = (σ 35 29).toInt := congrArg Int32.toInt (Eq.trans (show s_201 35 29 = s_198 35 29 from (by rw [es_202]; exact up2_o (by omega))) (Eq.trans (show s_198 35 29 = s_186 35 29 from f_200.2 29 (by first | omega | (dsimp only; omega))) (Eq.trans (show s_186 35 29 = s_173 35 29 from (by rw [es_187]; exact up2_o (by omega))) (Eq.trans (show s_173 35 29 = s_110 35 29 from (by rw [es_174]; exact up2_o (by omega))) (Eq.trans (show s_110 35 29 = s1 35 29 from f_115.2 29 (by first | omega | (dsimp only; omega))) (show s1 35 29 = σ 35 29 from hi4_7.2 29 (by first | omega | (dsimp only; omega))))))))
              refine lv_iload hC.x hC.b dX10_closes_129 (lv_at hl 4 rfl) ?_
              have av_204 : (nI n).toInt = (n : Int) := (nI_T n (by omega))
              refine goip (runV (As := [.int (s_201 35 29), .int (nI n)]) (rest := [.ref (G.2.1 57)]) hC hK hR hl.1 (c_X10_at l hG s_201 t_199 (s_201 35 29) (((s_201 35 29).toInt).toNat) (by first | rfl | (rw [show (s_201 35 29).toInt = (s_201 35 29).toInt from rfl]; done) | (rw [show (s_201 35 29).toInt = (s_201 35 29).toInt from rfl]; exact rfl)) (nI n) n (by first | rfl | (rw [show (nI n).toInt = (n : Int) from (nI_T n (by omega))]; done) | (rw [show (nI n).toInt = (n : Int) from (nI_T n (by omega))]; exact (Int.toNat_natCast _))) (by omega) (by omega)) (call_b hC.ts TC_X10_at TN_X10 TM_X10_140 hd_X10_at ⟨Nat.le_of_ble_eq_true rfl, Nat.le_of_ble_eq_true rfl⟩) TI_X10_at TS_X10_at (ct_model G _ _) rfl rfl rfl (Nat.le_of_ble_eq_true rfl) dX10_closes_131 ⟨Nat.le_of_ble_eq_true rfl, Nat.le_of_ble_eq_true rfl⟩) hS (fun v_205 H locs w_206 hR hS => ?_)
              subst w_206
              rw [show s_201 35 29 = (σ 35 29) from (Eq.trans (show s_201 35 29 = s_198 35 29 from (by rw [es_202]; exact up2_o (by omega))) (Eq.trans (show s_198 35 29 = s_186 35 29 from f_200.2 29 (by first | omega | (dsimp only; omega))) (Eq.trans (show s_186 35 29 = s_173 35 29 from (by rw [es_187]; exact up2_o (by omega))) (Eq.trans (show s_173 35 29 = s_110 35 29 from (by rw [es_174]; exact up2_o (by omega))) (Eq.trans (show s_110 35 29 = s1 35 29 from f_115.2 29 (by first | omega | (dsimp only; omega))) (show s1 35 29 = σ 35 29 from hi4_7.2 29 (by first | omega | (dsimp only; omega))))))))]
              refine lv_aload_n hC.x hC.b dX10_closes_134 rfl (lv_at hl 1 rfl) ?_
              refine lv_iload hC.x hC.b dX10_closes_135 (lv_at hl 4 rfl) ?_
              have rd_207 : (s_201 36 n).toInt = (σ 36 n).toInt := congrArg Int32.toInt (Eq.trans (show s_201 36 n = s_198 36 n from (by rw [es_202]; exact up2_o (by omega))) (Eq.trans (show s_198 36 n = s_186 36 n from congrFun (f_200.1 36 (by omega) (by first | omega | (dsimp only; omega) | (intro h; exact h))) n) (Eq.trans (show s_186 36 n = s_173 36 n from (by rw [es_187]; exact up2_o (by omega))) (Eq.trans (show s_173 36 n = s_110 36 n from (by rw [es_174]; exact up2_o (by omega))) (Eq.trans (show s_110 36 n = s1 36 n from congrFun (f_115.1 36 (by omega) (by first | omega | (dsimp only; omega) | (intro h; exact h))) n) (show s1 36 n = σ 36 n from congrFun (hi4_7.1 36 (by omega) (by first | omega | (dsimp only; omega) | (intro h; exact h))) n))))))
              have hcq := (show ClM s_201 from ClM.fr (S := (fun k => (41 ≤ k ∧ k ≤ 46 ∧ k ≠ 42 ∧ k ≠ 43) ∨ (52 ≤ k ∧ k ≤ 69) ∨ k = 71)) (J := (fun j => j = 37 ∨ j = 41 ∨ j = 43 ∨ j = 44)) (σ1 := s_201) hcl (by rw [es_202]; exact MRel.up ((MRel.tr (by rw [es_187]; exact MRel.up ((by rw [es_174]; exact MRel.up ((MRel.tr hi4_7 (MRel.mgc f_115))) (by omega) (by first | omega | (dsimp only; omega)))) (by omega) (by first | omega | (dsimp only; omega))) (MRel.mfc f_200))) (by omega) (by first | omega | (dsimp only; omega))) (by first | omega | (dsimp only; omega)) (by first | omega | (dsimp only; omega))) n (by omega) ⟨by omega, by omega⟩
              have hc6n := hc6 n (by omega) ⟨by omega, by omega⟩
              have av_208 : (nI n).toInt = (n : Int) := (nI_T n (by omega))
              have rd_209 : (s_201 35 29).toInt = (σ 35 29).toInt := congrArg Int32.toInt (Eq.trans (show s_201 35 29 = s_198 35 29 from (by rw [es_202]; exact up2_o (by omega))) (Eq.trans (show s_198 35 29 = s_186 35 29 from f_200.2 29 (by first | omega | (dsimp only; omega))) (Eq.trans (show s_186 35 29 = s_173 35 29 from (by rw [es_187]; exact up2_o (by omega))) (Eq.trans (show s_173 35 29 = s_110 35 29 from (by rw [es_174]; exact up2_o (by omega))) (Eq.trans (show s_110 35 29 = s1 35 29 from f_115.2 29 (by first | omega | (dsimp only; omega))) (show s1 35 29 = σ 35 29 from hi4_7.2 29 (by first | omega | (dsimp only; omega))))))))
              have rd_210 : (s_201 37 n).toInt = (σ 37 n).toInt := congrArg Int32.toInt (Eq.trans (show s_201 37 n = s_198 37 n from (by rw [es_202]; exact up2_o (by omega))) (Eq.trans (show s_198 37 n = s_186 37 n from congrFun (f_200.1 37 (by omega) (by first | omega | (dsimp only; omega) | (intro h; exact h))) n) (Eq.trans (show s_186 37 n = s_173 37 n from (by rw [es_187]; exact up2_o (by omega))) (Eq.trans (show s_173 37 n = s_110 37 n from (by rw [es_174]; exact up2_o (by omega))) (Eq.trans (show s_110 37 n = s1 37 n from congrFun (f_115.1 37 (by omega) (by first | omega | (dsimp only; omega) | (intro h; exact h))) n) (show s1 37 n = σ 37 n from congrFun (hi4_7.1 37 (by omega) (by first | omega | (dsimp only; omega) | (intro h; exact h))) n))))))
              have rd_211 : (s_201 38 n).toInt = (σ 38 n).toInt := congrArg Int32.toInt (Eq.trans (show s_201 38 n = s_198 38 n from (by rw [es_202]; exact up2_o (by omega))) (Eq.trans (show s_198 38 n = s_186 38 n from congrFun (f_200.1 38 (by omega) (by first | omega | (dsimp only; omega) | (intro h; exact h))) n) (Eq.trans (show s_186 38 n = s_173 38 n from (by rw [es_187]; exact up2_o (by omega))) (Eq.trans (show s_173 38 n = s_110 38 n from (by rw [es_174]; exact up2_o (by omega))) (Eq.trans (show s_110 38 n = s1 38 n from congrFun (f_115.1 38 (by omega) (by first | omega | (dsimp only; omega) | (intro h; exact h))) n) (show s1 38 n = σ 38 n from congrFun (hi4_7.1 38 (by omega) (by first | omega | (dsimp only; omega) | (intro h; exact h))) n))))))
              refine goi (runV (As := [.int (nI n)]) (rest := [.int (nI (24 * (σ 35 29).toInt.toNat + n)), .ref (G.2.1 57)]) hC hK hR hl.1 (c5_X10_full l hG s_201 t_199 (nI n) n (by first | rfl | (rw [show (nI n).toInt = (n : Int) from (nI_T n (by omega))]; done) | (rw [show (nI n).toInt = (n : Int) from (nI_T n (by omega))]; exact (Int.toNat_natCast _))) (by first | assumption | omega) (by omega) (by first | assumption | omega) (by exact (by rw [es_202]; exact KM.up (KM.fr (by rw [es_187]; exact KM.up (by rw [es_174]; exact KM.u71 (KM.fr hi0_7 f_115 (by first | omega | (dsimp only; omega) | exact fun q => q) (by first | omega | (dsimp only; omega) | exact fun q => q) (by first | omega | (dsimp only; omega) | exact fun q => q) (by first | omega | (dsimp only; omega))) (by decide)) (by omega)) f_200 (by first | omega | (dsimp only; omega) | exact fun q => q) (by first | omega | (dsimp only; omega) | exact fun q => q) (by first | omega | (dsimp only; omega) | exact fun q => q) (by first | omega | (dsimp only; omega))) (by omega))) (by exact XB.ex hxb (Eq.trans (show s_201 54 = s_198 54 from (by rw [es_202]; exact up2_ne (by omega))) (Eq.trans (show s_198 54 = s_186 54 from (f_200.1 54 (by omega) (by first | omega | (dsimp only; omega) | (intro h; exact h)))) (Eq.trans (show s_186 54 = s_173 54 from (by rw [es_187]; exact up2_ne (by omega))) (Eq.trans (show s_173 54 = s_110 54 from (by rw [es_174]; exact up2_ne (by omega))) (Eq.trans (show s_110 54 = s1 54 from (f_115.1 54 (by omega) (by first | omega | (dsimp only; omega) | (intro h; exact h)))) (hi3_7.1 54 (by decide) (by decide) (by decide) (by decide) (by omega)))))))) (by omega)) (call_b hC.ts TC_X10_full TN_X10 TM_X10_225 hd_X10_full ⟨Nat.le_of_ble_eq_true rfl, Nat.le_of_ble_eq_true rfl⟩) TI_X10_full TS_X10_full (ct_model G _ _) rfl rfl rfl (Nat.le_of_ble_eq_true rfl) dX10_closes_137 ⟨Nat.le_of_ble_eq_true rfl, Nat.le_of_ble_eq_true rfl⟩) hS (fun v_212 s_214 t_215 H locs w_213 hR hS => ?_)
              try dsimp only [po5_X10_full] at w_213
              obtain ⟨rfl, f_216⟩ := w_213
              refine ast hC hK hG hR hS (fun _ => ct_m_ws G _ _) (nI_T _ (by omega)) (by omega) (by omega) (Int.toNat_natCast _) dX10_closes_140 (fun s_217 es_218 H locs hR hS => ?_)
              refine lv_lload_n hC.x hC.b dX10_closes_141 rfl (lv_at hl 3 rfl) ?_
              refine lv_aload_n hC.x hC.b dX10_closes_142 rfl (lv_at hl 1 rfl) ?_
              refine rget hC hK hR (ct_model G _ _) rfl uin_X10 21 (by decide) TF_X10_74 rfl dX10_closes_143 ?_
              refine lv_aload_n hC.x hC.b dX10_closes_146 rfl (lv_at hl 1 rfl) ?_
              refine lv_aload_n hC.x hC.b dX10_closes_147 rfl (lv_at hl 1 rfl) ?_
              refine rget hC hK hR (ct_model G _ _) rfl uin_X10 29 (by decide) TF_X10_137 rfl dX10_closes_148 ?_
              have rd_219 : (s_217 35 29).toInt = (σ 35 29).toInt := congrArg Int32.toInt (Eq.trans (show s_217 35 29 = s_214 35 29 from (by rw [es_218]; exact up2_o (by omega))) (Eq.trans (show s_214 35 29 = s_201 35 29 from f_216.2 29 (by first | omega | (dsimp only; omega))) (Eq.trans (show s_201 35 29 = s_198 35 29 from (by rw [es_202]; exact up2_o (by omega))) (Eq.trans (show s_198 35 29 = s_186 35 29 from f_200.2 29 (by first | omega | (dsimp only; omega))) (Eq.trans (show s_186 35 29 = s_173 35 29 from (by rw [es_187]; exact up2_o (by omega))) (Eq.trans (show s_173 35 29 = s_110 35 29 from (by rw [es_174]; exact up2_o (by omega))) (Eq.trans (show s_110 35 29 = s1 35 29 from f_115.2 29 (by first | omega | (dsimp only; omega))) (show s1 35 29 = σ 35 29 from hi4_7.2 29 (by first | omega | (dsimp only; omega))))))))))
              refine lv_iload hC.x hC.b dX10_closes_151 (lv_at hl 4 rfl) ?_
              have av_220 : (nI n).toInt = (n : Int) := (nI_T n (by omega))
              refine goip (runV (As := [.int (s_217 35 29), .int (nI n)]) (rest := [.ref (G.2.1 57), .long x3]) hC hK hR hl.1 (c_X10_at l hG s_217 t_215 (s_217 35 29) (((s_217 35 29).toInt).toNat) (by first | rfl | (rw [show (s_217 35 29).toInt = (s_217 35 29).toInt from rfl]; done) | (rw [show (s_217 35 29).toInt = (s_217 35 29).toInt from rfl]; exact rfl)) (nI n) n (by first | rfl | (rw [show (nI n).toInt = (n : Int) from (nI_T n (by omega))]; done) | (rw [show (nI n).toInt = (n : Int) from (nI_T n (by omega))]; exact (Int.toNat_natCast _))) (by omega) (by omega)) (call_b hC.ts TC_X10_at TN_X10 TM_X10_140 hd_X10_at ⟨Nat.le_of_ble_eq_true rfl, Nat.le_of_ble_eq_true rfl⟩) TI_X10_at TS_X10_at (ct_model G _ _) rfl rfl rfl (Nat.le_of_ble_eq_true rfl) dX10_closes_153 ⟨Nat.le_of_ble_eq_true rfl, Nat.le_of_ble_eq_true rfl⟩) hS (fun v_221 H locs w_222 hR hS => ?_)
              subst w_222
              rw [show s_217 35 29 = (σ 35 29) from (Eq.trans (show s_217 35 29 = s_214 35 29 from (by rw [es_218]; exact up2_o (by omega))) (Eq.trans (show s_214 35 29 = s_201 35 29 from f_216.2 29 (by first | omega | (dsimp only; omega))) (Eq.trans (show s_201 35 29 = s_198 35 29 from (by rw [es_202]; exact up2_o (by omega))) (Eq.trans (show s_198 35 29 = s_186 35 29 from f_200.2 29 (by first | omega | (dsimp only; omega))) (Eq.trans (show s_186 35 29 = s_173 35 29 from (by rw [es_187]; exact up2_o (by omega))) (Eq.trans (show s_173 35 29 = s_110 35 29 from (by rw [es_174]; exact up2_o (by omega))) (Eq.trans (show s_110 35 29 = s1 35 29 from f_115.2 29 (by first | omega | (dsimp only; omega))) (show s1 35 29 = σ 35 29 from hi4_7.2 29 (by first | omega | (dsimp only; omega))))))))))]
              refine ald hC hK hR (ct_m_ws G _ _) (nI_T _ (by omega)) (by omega) (by omega) (Int.toNat_natCast _) dX10_closes_156 ?_
              have rd_223 : (s_217 57 (24 * (σ 35 29).toInt.toNat + n)).toInt = (FW6 (s_201 41 n).toInt (FT (pX s_201 n) (s_201 37 n).toInt (s_201 35 29).toInt (s_201 36 n).toInt) (pM s_201 n) (s_201 38 n).toInt (s_201 35 29).toInt).toInt := congrArg Int32.toInt (show s_217 57 (24 * (σ 35 29).toInt.toNat + n) = (FW6 (s_201 41 n).toInt (FT (pX s_201 n) (s_201 37 n).toInt (s_201 35 29).toInt (s_201 36 n).toInt) (pM s_201 n) (s_201 38 n).toInt (s_201 35 29).toInt) from (by rw [es_218]; exact up2_s))
              refine lv_i2l hC.x hC.b dX10_closes_157 rfl ?_
              refine lv_ladd hC.x hC.b dX10_closes_158 ?_
              refine lv_topl (fun x_224 ex_225 => ?_)
              refine lv_lstore_n (lv' := [(3, .long x_224), (2, .int x_177), (0, .ref (G.2.1 35)), (1, .int ra), (5, .int (nI n))]) hC.x hC.b dX10_closes_159 rfl hl (by decide) rfl (fun ls hl => ?_)
              refine lv_iinc (v := nI (n + 1)) (lv' := [(5, .int (nI (n + 1))), (3, .long x_224), (2, .int x_177), (0, .ref (G.2.1 35)), (1, .int ra)]) hC.x hC.b dX10_closes_160 hl (k := 4) rfl (nI_succ _).symm (by decide) rfl (fun ls hl => ?_)
              refine lv_goto (tgt := 7) hC.x hC.b dX10_closes_163 (by decide) ?_
              exact ih_7 x_177 x_224 (n + 1) s_217 t_215 (by omega) (by exact (by rw [es_218]; exact KM.up (KM.fr (by rw [es_202]; exact KM.up (KM.fr (by rw [es_187]; exact KM.up (by rw [es_174]; exact KM.u71 (KM.fr hi0_7 f_115 (by first | omega | (dsimp only; omega) | exact fun q => q) (by first | omega | (dsimp only; omega) | exact fun q => q) (by first | omega | (dsimp only; omega) | exact fun q => q) (by first | omega | (dsimp only; omega))) (by decide)) (by omega)) f_200 (by first | omega | (dsimp only; omega) | exact fun q => q) (by first | omega | (dsimp only; omega) | exact fun q => q) (by first | omega | (dsimp only; omega) | exact fun q => q) (by first | omega | (dsimp only; omega))) (by omega)) f_216 (by first | omega | (dsimp only; omega) | exact fun q => q) (by first | omega | (dsimp only; omega) | exact fun q => q) (by first | omega | (dsimp only; omega) | exact fun q => q) (by first | omega | (dsimp only; omega))) (by omega))) (by first | omega | assumption) (by first | exact CntR.p hi2_7 (pm_mk (K6.mr hi4_7 (by intro k h1 h2; first | omega | (dsimp only at h2; omega)) (by omega)) ⟨by omega, by omega, by omega, by omega⟩ (by assumption)) (by assumption) | exact CntR.q hi2_7 (qm_0 (K6.mr hi4_7 (by intro k h1 h2; first | omega | (dsimp only at h2; omega)) (by omega)) (by rintro ⟨h1, h2, h3, h4⟩; omega)) | exact CntR.q hi2_7 (qm_1 (K6.mr hi4_7 (by intro k h1 h2; first | omega | (dsimp only at h2; omega)) (by omega)) (by assumption)) | (exfalso; omega)) (by first | exact MA6.p hi3_7 (by omega) f_115 es_174 es_187 f_200 es_202 f_216 es_218 rfl rfl rfl rfl ((TkM_x (K6.mr hi4_7 (by intro k h1 h2; first | omega | (dsimp only at h2; omega)) (by omega))).mp ⟨by omega, by omega, by omega, by omega⟩) (go_s (K6.mr hi4_7 (by intro k h1 h2; first | omega | (dsimp only at h2; omega)) (by omega)) (by assumption)) ex_225 | (exfalso; omega)) (by rw [es_218]; exact MRel.up ((MRel.tr (by rw [es_202]; exact MRel.up ((MRel.tr (by rw [es_187]; exact MRel.up ((by rw [es_174]; exact MRel.up ((MRel.tr hi4_7 (MRel.mgc f_115))) (by omega) (by first | omega | (dsimp only; omega)))) (by omega) (by first | omega | (dsimp only; omega))) (MRel.mfc f_200))) (by omega) (by first | omega | (dsimp only; omega))) (MRel.mfc f_216))) (by omega) (by first | omega | (dsimp only; omega))) _ _ _ hR hS (lv_sub hl [3, 4, 2, 1, 0] rfl)
            · skip
              refine lv_goto (tgt := 160) hC.x hC.b dX10_closes_59 (by decide) ?_
              refine lv_iinc (v := nI (n + 1)) (lv' := [(5, .int (nI (n + 1))), (0, .ref (G.2.1 35)), (1, .int ra), (2, .int x2), (3, .long x3)]) hC.x hC.b dX10_closes_160 hl (k := 4) rfl (nI_succ _).symm (by decide) rfl (fun ls hl => ?_)
              refine lv_goto (tgt := 7) hC.x hC.b dX10_closes_163 (by decide) ?_
              exact ih_7 x2 x3 (n + 1) s_173 t_111 (by omega) (by exact (by rw [es_174]; exact KM.u71 (KM.fr hi0_7 f_115 (by first | omega | (dsimp only; omega) | exact fun q => q) (by first | omega | (dsimp only; omega) | exact fun q => q) (by first | omega | (dsimp only; omega) | exact fun q => q) (by first | omega | (dsimp only; omega))) (by decide))) (by first | omega | assumption) (by first | exact CntR.p hi2_7 (pm_mk (K6.mr hi4_7 (by intro k h1 h2; first | omega | (dsimp only at h2; omega)) (by omega)) ⟨by omega, by omega, by omega, by omega⟩ (by assumption)) (by assumption) | exact CntR.q hi2_7 (qm_0 (K6.mr hi4_7 (by intro k h1 h2; first | omega | (dsimp only at h2; omega)) (by omega)) (by rintro ⟨h1, h2, h3, h4⟩; omega)) | exact CntR.q hi2_7 (qm_1 (K6.mr hi4_7 (by intro k h1 h2; first | omega | (dsimp only at h2; omega)) (by omega)) (by assumption)) | (exfalso; omega)) (by first | exact MA6.q hi3_7 f_115 es_174 (qm_1 (K6.mr hi4_7 (by intro k h1 h2; first | omega | (dsimp only at h2; omega)) (by omega)) (by assumption)) | (exfalso; omega)) (by rw [es_174]; exact MRel.up ((MRel.tr hi4_7 (MRel.mgc f_115))) (by omega) (by first | omega | (dsimp only; omega))) _ _ _ hR hS (lv_sub hl [1, 2, 3, 4, 0] rfl)
        · skip
          have rd_226 : (s1 36 n).toInt = (σ 36 n).toInt := congrArg Int32.toInt (show s1 36 n = σ 36 n from congrFun (hi4_7.1 36 (by omega) (by first | omega | (dsimp only; omega) | (intro h; exact h))) n)
          refine bz_eq (tgt := 47) (a := 0) (b := 0) hC.x hC.b rfl rfl dX10_closes_26 (by decide) (fun _ => ?_) (fun c_227 => absurd c_227 (by decide))
          refine lv_iconst (v := 0) hC.x hC.b dX10_closes_47 (by decide) ?_
          refine zast hC hK hG hR hS (fun _ => ct_m_present G _ _) (nI_T n (by omega)) (by omega) (by omega) (Int.toNat_natCast _) (Or.inl rfl) dX10_closes_48 (fun s_228 es_229 H locs hR hS => ?_)
          refine lv_aload_n hC.x hC.b dX10_closes_49 rfl (lv_at hl 0 rfl) ?_
          refine rget hC hK hR (ct_model G _ _) rfl uin_X10 48 (by decide) TF_X10_126 rfl dX10_closes_50 ?_
          refine lv_iload hC.x hC.b dX10_closes_53 (lv_at hl 4 rfl) ?_
          refine zald hC hK hR (ct_m_present G _ _) (nI_T n (by omega)) (by omega) (by omega) (Int.toNat_natCast _) dX10_closes_55 ?_
          have rd_230 : (s_228 71 n).toInt = 0 := (congrArg Int32.toInt (show s_228 71 n = (0 : Int32) from (by rw [es_229]; exact up2_s))).trans (by decide)
          refine bz_ne (tgt := 62) (a := (s_228 71 n).toInt) (b := 0) hC.x hC.b rfl rfl dX10_closes_56 (by decide) (fun c_231 => ?_) (fun c_231 => ?_)
          · skip
            obtain ⟨x_232, ex_233⟩ : ∃ y : Int32, y = x2 + 1 := ⟨_, rfl⟩
            refine lv_iinc (v := x_232) (lv' := [(2, .int x_232), (0, .ref (G.2.1 35)), (1, .int ra), (3, .long x3), (5, .int (nI n))]) hC.x hC.b dX10_closes_62 hl (k := 2) rfl ex_233.symm (by decide) rfl (fun ls hl => ?_)
            refine lv_aload_n hC.x hC.b dX10_closes_65 rfl (lv_at hl 1 rfl) ?_
            refine rget hC hK hR (ct_model G _ _) rfl uin_X10 22 (by decide) TF_X10_77 rfl dX10_closes_66 ?_
            refine lv_aload_n hC.x hC.b dX10_closes_69 rfl (lv_at hl 1 rfl) ?_
            refine lv_aload_n hC.x hC.b dX10_closes_70 rfl (lv_at hl 1 rfl) ?_
            refine rget hC hK hR (ct_model G _ _) rfl uin_X10 29 (by decide) TF_X10_137 rfl dX10_closes_71 ?_
            have rd_234 : (s_228 35 29).toInt = (σ 35 29).toInt := congrArg Int32.toInt (Eq.trans (show s_228 35 29 = s1 35 29 from (by rw [es_229]; exact up2_o (by omega))) (show s1 35 29 = σ 35 29 from hi4_7.2 29 (by first | omega | (dsimp only; omega))))
            refine lv_iload hC.x hC.b dX10_closes_74 (lv_at hl 4 rfl) ?_
            have av_235 : (nI n).toInt = (n : Int) := (nI_T n (by omega))
            refine goip (runV (As := [.int (s_228 35 29), .int (nI n)]) (rest := [.ref (G.2.1 58)]) hC hK hR hl.1 (c_X10_at l hG s_228 t1 (s_228 35 29) (((s_228 35 29).toInt).toNat) (by first | rfl | (rw [show (s_228 35 29).toInt = (s_228 35 29).toInt from rfl]; done) | (rw [show (s_228 35 29).toInt = (s_228 35 29).toInt from rfl]; exact rfl)) (nI n) n (by first | rfl | (rw [show (nI n).toInt = (n : Int) from (nI_T n (by omega))]; done) | (rw [show (nI n).toInt = (n : Int) from (nI_T n (by omega))]; exact (Int.toNat_natCast _))) (by omega) (by omega)) (call_b hC.ts TC_X10_at TN_X10 TM_X10_140 hd_X10_at ⟨Nat.le_of_ble_eq_true rfl, Nat.le_of_ble_eq_true rfl⟩) TI_X10_at TS_X10_at (ct_model G _ _) rfl rfl rfl (Nat.le_of_ble_eq_true rfl) dX10_closes_76 ⟨Nat.le_of_ble_eq_true rfl, Nat.le_of_ble_eq_true rfl⟩) hS (fun v_236 H locs w_237 hR hS => ?_)
            subst w_237
            rw [show s_228 35 29 = (σ 35 29) from (Eq.trans (show s_228 35 29 = s1 35 29 from (by rw [es_229]; exact up2_o (by omega))) (show s1 35 29 = σ 35 29 from hi4_7.2 29 (by first | omega | (dsimp only; omega))))]
            refine lv_aload_n hC.x hC.b dX10_closes_79 rfl (lv_at hl 1 rfl) ?_
            refine rget hC hK hR (ct_model G _ _) rfl uin_X10 43 (by decide) TF_X10_158 rfl dX10_closes_80 ?_
            have rd_238 : (s_228 35 43).toInt = (s1 35 43).toInt := congrArg Int32.toInt (show s_228 35 43 = s1 35 43 from (by rw [es_229]; exact up2_o (by omega)))
            refine lv_aload_n hC.x hC.b dX10_closes_83 rfl (lv_at hl 1 rfl) ?_
            refine rget hC hK hR (ct_model G _ _) rfl uin_X10 6 (by decide) TF_X10_29 rfl dX10_closes_84 ?_
            refine lv_iload hC.x hC.b dX10_closes_87 (lv_at hl 4 rfl) ?_
            refine ald hC hK hR (ct_m_setting G _ _) (nI_T n (by omega)) (by omega) (by omega) (Int.toNat_natCast _) dX10_closes_89 ?_
            have rd_239 : (s_228 42 n).toInt = (σ 42 n).toInt := congrArg Int32.toInt (Eq.trans (show s_228 42 n = s1 42 n from (by rw [es_229]; exact up2_o (by omega))) (show s1 42 n = σ 42 n from congrFun (hi4_7.1 42 (by omega) (by first | omega | (dsimp only; omega) | (intro h; exact h))) n))
            refine lv_isub hC.x hC.b dX10_closes_90 ?_
            refine lv_aload_n hC.x hC.b dX10_closes_91 rfl (lv_at hl 1 rfl) ?_
            refine rget hC hK hR (ct_model G _ _) rfl uin_X10 6 (by decide) TF_X10_29 rfl dX10_closes_92 ?_
            refine lv_iload_n hC.x hC.b dX10_closes_95 rfl (lv_at hl 2 rfl) ?_
            refine ald hC hK hR (ct_m_setting G _ _) rfl (by omega) (by omega) hp_rq dX10_closes_96 ?_
            have rd_240 : (s_228 42 rq).toInt = (σ 42 rq).toInt := congrArg Int32.toInt (Eq.trans (show s_228 42 rq = s1 42 rq from (by rw [es_229]; exact up2_o (by omega))) (show s1 42 rq = σ 42 rq from congrFun (hi4_7.1 42 (by omega) (by first | omega | (dsimp only; omega) | (intro h; exact h))) rq))
            refine lv_iadd hC.x hC.b dX10_closes_97 ?_
            refine ast hC hK hG hR hS (fun _ => ct_m_ds G _ _) (nI_T _ (by omega)) (by omega) (by omega) (Int.toNat_natCast _) dX10_closes_98 (fun s_241 es_242 H locs hR hS => ?_)
            refine lv_aload_n hC.x hC.b dX10_closes_99 rfl (lv_at hl 1 rfl) ?_
            refine rget hC hK hR (ct_model G _ _) rfl uin_X10 19 (by decide) TF_X10_68 rfl dX10_closes_100 ?_
            refine lv_aload_n hC.x hC.b dX10_closes_103 rfl (lv_at hl 1 rfl) ?_
            refine lv_aload_n hC.x hC.b dX10_closes_104 rfl (lv_at hl 1 rfl) ?_
            refine rget hC hK hR (ct_model G _ _) rfl uin_X10 29 (by decide) TF_X10_137 rfl dX10_closes_105 ?_
            have rd_243 : (s_241 35 29).toInt = (σ 35 29).toInt := congrArg Int32.toInt (Eq.trans (show s_241 35 29 = s_228 35 29 from (by rw [es_242]; exact up2_o (by omega))) (Eq.trans (show s_228 35 29 = s1 35 29 from (by rw [es_229]; exact up2_o (by omega))) (show s1 35 29 = σ 35 29 from hi4_7.2 29 (by first | omega | (dsimp only; omega)))))
            refine lv_iload hC.x hC.b dX10_closes_108 (lv_at hl 4 rfl) ?_
            have av_244 : (nI n).toInt = (n : Int) := (nI_T n (by omega))
            refine goip (runV (As := [.int (s_241 35 29), .int (nI n)]) (rest := [.ref (G.2.1 55)]) hC hK hR hl.1 (c_X10_at l hG s_241 t1 (s_241 35 29) (((s_241 35 29).toInt).toNat) (by first | rfl | (rw [show (s_241 35 29).toInt = (s_241 35 29).toInt from rfl]; done) | (rw [show (s_241 35 29).toInt = (s_241 35 29).toInt from rfl]; exact rfl)) (nI n) n (by first | rfl | (rw [show (nI n).toInt = (n : Int) from (nI_T n (by omega))]; done) | (rw [show (nI n).toInt = (n : Int) from (nI_T n (by omega))]; exact (Int.toNat_natCast _))) (by omega) (by omega)) (call_b hC.ts TC_X10_at TN_X10 TM_X10_140 hd_X10_at ⟨Nat.le_of_ble_eq_true rfl, Nat.le_of_ble_eq_true rfl⟩) TI_X10_at TS_X10_at (ct_model G _ _) rfl rfl rfl (Nat.le_of_ble_eq_true rfl) dX10_closes_110 ⟨Nat.le_of_ble_eq_true rfl, Nat.le_of_ble_eq_true rfl⟩) hS (fun v_245 H locs w_246 hR hS => ?_)
            subst w_246
            rw [show s_241 35 29 = (σ 35 29) from (Eq.trans (show s_241 35 29 = s_228 35 29 from (by rw [es_242]; exact up2_o (by omega))) (Eq.trans (show s_228 35 29 = s1 35 29 from (by rw [es_229]; exact up2_o (by omega))) (show s1 35 29 = σ 35 29 from hi4_7.2 29 (by first | omega | (dsimp only; omega)))))]
            refine lv_aload_n hC.x hC.b dX10_closes_113 rfl (lv_at hl 1 rfl) ?_
            refine lv_iload hC.x hC.b dX10_closes_114 (lv_at hl 4 rfl) ?_
            have rd_247 : (s_241 36 n).toInt = (σ 36 n).toInt := congrArg Int32.toInt (Eq.trans (show s_241 36 n = s_228 36 n from (by rw [es_242]; exact up2_o (by omega))) (Eq.trans (show s_228 36 n = s1 36 n from (by rw [es_229]; exact up2_o (by omega))) (show s1 36 n = σ 36 n from congrFun (hi4_7.1 36 (by omega) (by first | omega | (dsimp only; omega) | (intro h; exact h))) n)))
            have hcq := (show ClM s_241 from ClM.fr (S := (fun k => (41 ≤ k ∧ k ≤ 46 ∧ k ≠ 42 ∧ k ≠ 43) ∨ (52 ≤ k ∧ k ≤ 69) ∨ k = 71)) (J := (fun j => j = 37 ∨ j = 41 ∨ j = 43 ∨ j = 44)) (σ1 := s_241) hcl (by rw [es_242]; exact MRel.up ((by rw [es_229]; exact MRel.up (hi4_7) (by omega) (by first | omega | (dsimp only; omega)))) (by omega) (by first | omega | (dsimp only; omega))) (by first | omega | (dsimp only; omega)) (by first | omega | (dsimp only; omega))) n (by omega) ⟨by omega, by omega⟩
            have av_248 : (nI n).toInt = (n : Int) := (nI_T n (by omega))
            have rd_249 : (s_241 35 29).toInt = (σ 35 29).toInt := congrArg Int32.toInt (Eq.trans (show s_241 35 29 = s_228 35 29 from (by rw [es_242]; exact up2_o (by omega))) (Eq.trans (show s_228 35 29 = s1 35 29 from (by rw [es_229]; exact up2_o (by omega))) (show s1 35 29 = σ 35 29 from hi4_7.2 29 (by first | omega | (dsimp only; omega)))))
            have rd_250 : (s_241 37 n).toInt = (σ 37 n).toInt := congrArg Int32.toInt (Eq.trans (show s_241 37 n = s_228 37 n from (by rw [es_242]; exact up2_o (by omega))) (Eq.trans (show s_228 37 n = s1 37 n from (by rw [es_229]; exact up2_o (by omega))) (show s1 37 n = σ 37 n from congrFun (hi4_7.1 37 (by omega) (by first | omega | (dsimp only; omega) | (intro h; exact h))) n)))
            refine goi (runV (As := [.int (nI n)]) (rest := [.int (nI (24 * (σ 35 29).toInt.toNat + n)), .ref (G.2.1 55)]) hC hK hR hl.1 (c5_X10_foretold l hG s_241 t1 (nI n) n (by first | rfl | (rw [show (nI n).toInt = (n : Int) from (nI_T n (by omega))]; done) | (rw [show (nI n).toInt = (n : Int) from (nI_T n (by omega))]; exact (Int.toNat_natCast _))) (by first | assumption | omega) (by omega) (by first | assumption | omega) (by exact XB.ex hxb (Eq.trans (show s_241 54 = s_228 54 from (by rw [es_242]; exact up2_ne (by omega))) (Eq.trans (show s_228 54 = s1 54 from (by rw [es_229]; exact up2_ne (by omega))) (hi3_7.1 54 (by decide) (by decide) (by decide) (by decide) (by omega)))))) (call_b hC.ts TC_X10_foretold TN_X10 TM_X10_210 hd_X10_foretold ⟨Nat.le_of_ble_eq_true rfl, Nat.le_of_ble_eq_true rfl⟩) TI_X10_foretold TS_X10_foretold (ct_model G _ _) rfl rfl rfl (Nat.le_of_ble_eq_true rfl) dX10_closes_116 ⟨Nat.le_of_ble_eq_true rfl, Nat.le_of_ble_eq_true rfl⟩) hS (fun v_251 s_253 t_254 H locs w_252 hR hS => ?_)
            try dsimp only [po5_X10_foretold] at w_252
            obtain ⟨rfl, f_255⟩ := w_252
            refine ast hC hK hG hR hS (fun _ => ct_m_fs G _ _) (nI_T _ (by omega)) (by omega) (by omega) (Int.toNat_natCast _) dX10_closes_119 (fun s_256 es_257 H locs hR hS => ?_)
            refine lv_aload_n hC.x hC.b dX10_closes_120 rfl (lv_at hl 1 rfl) ?_
            refine rget hC hK hR (ct_model G _ _) rfl uin_X10 21 (by decide) TF_X10_74 rfl dX10_closes_121 ?_
            refine lv_aload_n hC.x hC.b dX10_closes_124 rfl (lv_at hl 1 rfl) ?_
            refine lv_aload_n hC.x hC.b dX10_closes_125 rfl (lv_at hl 1 rfl) ?_
            refine rget hC hK hR (ct_model G _ _) rfl uin_X10 29 (by decide) TF_X10_137 rfl dX10_closes_126 ?_
            have rd_258 : (s_256 35 29).toInt = (σ 35 29).toInt := congrArg Int32.toInt (Eq.trans (show s_256 35 29 = s_253 35 29 from (by rw [es_257]; exact up2_o (by omega))) (Eq.trans (show s_253 35 29 = s_241 35 29 from f_255.2 29 (by first | omega | (dsimp only; omega))) (Eq.trans (show s_241 35 29 = s_228 35 29 from (by rw [es_242]; exact up2_o (by omega))) (Eq.trans (show s_228 35 29 = s1 35 29 from (by rw [es_229]; exact up2_o (by omega))) (show s1 35 29 = σ 35 29 from hi4_7.2 29 (by first | omega | (dsimp only; omega)))))))
            refine lv_iload hC.x hC.b dX10_closes_129 (lv_at hl 4 rfl) ?_
            have av_259 : (nI n).toInt = (n : Int) := (nI_T n (by omega))
            refine goip (runV (As := [.int (s_256 35 29), .int (nI n)]) (rest := [.ref (G.2.1 57)]) hC hK hR hl.1 (c_X10_at l hG s_256 t_254 (s_256 35 29) (((s_256 35 29).toInt).toNat) (by first | rfl | (rw [show (s_256 35 29).toInt = (s_256 35 29).toInt from rfl]; done) | (rw [show (s_256 35 29).toInt = (s_256 35 29).toInt from rfl]; exact rfl)) (nI n) n (by first | rfl | (rw [show (nI n).toInt = (n : Int) from (nI_T n (by omega))]; done) | (rw [show (nI n).toInt = (n : Int) from (nI_T n (by omega))]; exact (Int.toNat_natCast _))) (by omega) (by omega)) (call_b hC.ts TC_X10_at TN_X10 TM_X10_140 hd_X10_at ⟨Nat.le_of_ble_eq_true rfl, Nat.le_of_ble_eq_true rfl⟩) TI_X10_at TS_X10_at (ct_model G _ _) rfl rfl rfl (Nat.le_of_ble_eq_true rfl) dX10_closes_131 ⟨Nat.le_of_ble_eq_true rfl, Nat.le_of_ble_eq_true rfl⟩) hS (fun v_260 H locs w_261 hR hS => ?_)
            subst w_261
            rw [show s_256 35 29 = (σ 35 29) from (Eq.trans (show s_256 35 29 = s_253 35 29 from (by rw [es_257]; exact up2_o (by omega))) (Eq.trans (show s_253 35 29 = s_241 35 29 from f_255.2 29 (by first | omega | (dsimp only; omega))) (Eq.trans (show s_241 35 29 = s_228 35 29 from (by rw [es_242]; exact up2_o (by omega))) (Eq.trans (show s_228 35 29 = s1 35 29 from (by rw [es_229]; exact up2_o (by omega))) (show s1 35 29 = σ 35 29 from hi4_7.2 29 (by first | omega | (dsimp only; omega)))))))]
            refine lv_aload_n hC.x hC.b dX10_closes_134 rfl (lv_at hl 1 rfl) ?_
            refine lv_iload hC.x hC.b dX10_closes_135 (lv_at hl 4 rfl) ?_
            have rd_262 : (s_256 36 n).toInt = (σ 36 n).toInt := congrArg Int32.toInt (Eq.trans (show s_256 36 n = s_253 36 n from (by rw [es_257]; exact up2_o (by omega))) (Eq.trans (show s_253 36 n = s_241 36 n from congrFun (f_255.1 36 (by omega) (by first | omega | (dsimp only; omega) | (intro h; exact h))) n) (Eq.trans (show s_241 36 n = s_228 36 n from (by rw [es_242]; exact up2_o (by omega))) (Eq.trans (show s_228 36 n = s1 36 n from (by rw [es_229]; exact up2_o (by omega))) (show s1 36 n = σ 36 n from congrFun (hi4_7.1 36 (by omega) (by first | omega | (dsimp only; omega) | (intro h; exact h))) n)))))
            have hcq := (show ClM s_256 from ClM.fr (S := (fun k => (41 ≤ k ∧ k ≤ 46 ∧ k ≠ 42 ∧ k ≠ 43) ∨ (52 ≤ k ∧ k ≤ 69) ∨ k = 71)) (J := (fun j => j = 37 ∨ j = 41 ∨ j = 43 ∨ j = 44)) (σ1 := s_256) hcl (by rw [es_257]; exact MRel.up ((MRel.tr (by rw [es_242]; exact MRel.up ((by rw [es_229]; exact MRel.up (hi4_7) (by omega) (by first | omega | (dsimp only; omega)))) (by omega) (by first | omega | (dsimp only; omega))) (MRel.mfc f_255))) (by omega) (by first | omega | (dsimp only; omega))) (by first | omega | (dsimp only; omega)) (by first | omega | (dsimp only; omega))) n (by omega) ⟨by omega, by omega⟩
            have hc6n := hc6 n (by omega) ⟨by omega, by omega⟩
            have av_263 : (nI n).toInt = (n : Int) := (nI_T n (by omega))
            have rd_264 : (s_256 35 29).toInt = (σ 35 29).toInt := congrArg Int32.toInt (Eq.trans (show s_256 35 29 = s_253 35 29 from (by rw [es_257]; exact up2_o (by omega))) (Eq.trans (show s_253 35 29 = s_241 35 29 from f_255.2 29 (by first | omega | (dsimp only; omega))) (Eq.trans (show s_241 35 29 = s_228 35 29 from (by rw [es_242]; exact up2_o (by omega))) (Eq.trans (show s_228 35 29 = s1 35 29 from (by rw [es_229]; exact up2_o (by omega))) (show s1 35 29 = σ 35 29 from hi4_7.2 29 (by first | omega | (dsimp only; omega)))))))
            have rd_265 : (s_256 37 n).toInt = (σ 37 n).toInt := congrArg Int32.toInt (Eq.trans (show s_256 37 n = s_253 37 n from (by rw [es_257]; exact up2_o (by omega))) (Eq.trans (show s_253 37 n = s_241 37 n from congrFun (f_255.1 37 (by omega) (by first | omega | (dsimp only; omega) | (intro h; exact h))) n) (Eq.trans (show s_241 37 n = s_228 37 n from (by rw [es_242]; exact up2_o (by omega))) (Eq.trans (show s_228 37 n = s1 37 n from (by rw [es_229]; exact up2_o (by omega))) (show s1 37 n = σ 37 n from congrFun (hi4_7.1 37 (by omega) (by first | omega | (dsimp only; omega) | (intro h; exact h))) n)))))
            have rd_266 : (s_256 38 n).toInt = (σ 38 n).toInt := congrArg Int32.toInt (Eq.trans (show s_256 38 n = s_253 38 n from (by rw [es_257]; exact up2_o (by omega))) (Eq.trans (show s_253 38 n = s_241 38 n from congrFun (f_255.1 38 (by omega) (by first | omega | (dsimp only; omega) | (intro h; exact h))) n) (Eq.trans (show s_241 38 n = s_228 38 n from (by rw [es_242]; exact up2_o (by omega))) (Eq.trans (show s_228 38 n = s1 38 n from (by rw [es_229]; exact up2_o (by omega))) (show s1 38 n = σ 38 n from congrFun (hi4_7.1 38 (by omega) (by first | omega | (dsimp only; omega) | (intro h; exact h))) n)))))
            refine goi (runV (As := [.int (nI n)]) (rest := [.int (nI (24 * (σ 35 29).toInt.toNat + n)), .ref (G.2.1 57)]) hC hK hR hl.1 (c5_X10_full l hG s_256 t_254 (nI n) n (by first | rfl | (rw [show (nI n).toInt = (n : Int) from (nI_T n (by omega))]; done) | (rw [show (nI n).toInt = (n : Int) from (nI_T n (by omega))]; exact (Int.toNat_natCast _))) (by first | assumption | omega) (by omega) (by first | assumption | omega) (by exact (by rw [es_257]; exact KM.up (KM.fr (by rw [es_242]; exact KM.up (by rw [es_229]; exact KM.u71 hi0_7 (by decide)) (by omega)) f_255 (by first | omega | (dsimp only; omega) | exact fun q => q) (by first | omega | (dsimp only; omega) | exact fun q => q) (by first | omega | (dsimp only; omega) | exact fun q => q) (by first | omega | (dsimp only; omega))) (by omega))) (by exact XB.ex hxb (Eq.trans (show s_256 54 = s_253 54 from (by rw [es_257]; exact up2_ne (by omega))) (Eq.trans (show s_253 54 = s_241 54 from (f_255.1 54 (by omega) (by first | omega | (dsimp only; omega) | (intro h; exact h)))) (Eq.trans (show s_241 54 = s_228 54 from (by rw [es_242]; exact up2_ne (by omega))) (Eq.trans (show s_228 54 = s1 54 from (by rw [es_229]; exact up2_ne (by omega))) (hi3_7.1 54 (by decide) (by decide) (by decide) (by decide) (by omega))))))) (by omega)) (call_b hC.ts TC_X10_full TN_X10 TM_X10_225 hd_X10_full ⟨Nat.le_of_ble_eq_true rfl, Nat.le_of_ble_eq_true rfl⟩) TI_X10_full TS_X10_full (ct_model G _ _) rfl rfl rfl (Nat.le_of_ble_eq_true rfl) dX10_closes_137 ⟨Nat.le_of_ble_eq_true rfl, Nat.le_of_ble_eq_true rfl⟩) hS (fun v_267 s_269 t_270 H locs w_268 hR hS => ?_)
            try dsimp only [po5_X10_full] at w_268
            obtain ⟨rfl, f_271⟩ := w_268
            refine ast hC hK hG hR hS (fun _ => ct_m_ws G _ _) (nI_T _ (by omega)) (by omega) (by omega) (Int.toNat_natCast _) dX10_closes_140 (fun s_272 es_273 H locs hR hS => ?_)
            refine lv_lload_n hC.x hC.b dX10_closes_141 rfl (lv_at hl 3 rfl) ?_
            refine lv_aload_n hC.x hC.b dX10_closes_142 rfl (lv_at hl 1 rfl) ?_
            refine rget hC hK hR (ct_model G _ _) rfl uin_X10 21 (by decide) TF_X10_74 rfl dX10_closes_143 ?_
            refine lv_aload_n hC.x hC.b dX10_closes_146 rfl (lv_at hl 1 rfl) ?_
            refine lv_aload_n hC.x hC.b dX10_closes_147 rfl (lv_at hl 1 rfl) ?_
            refine rget hC hK hR (ct_model G _ _) rfl uin_X10 29 (by decide) TF_X10_137 rfl dX10_closes_148 ?_
            have rd_274 : (s_272 35 29).toInt = (σ 35 29).toInt := congrArg Int32.toInt (Eq.trans (show s_272 35 29 = s_269 35 29 from (by rw [es_273]; exact up2_o (by omega))) (Eq.trans (show s_269 35 29 = s_256 35 29 from f_271.2 29 (by first | omega | (dsimp only; omega))) (Eq.trans (show s_256 35 29 = s_253 35 29 from (by rw [es_257]; exact up2_o (by omega))) (Eq.trans (show s_253 35 29 = s_241 35 29 from f_255.2 29 (by first | omega | (dsimp only; omega))) (Eq.trans (show s_241 35 29 = s_228 35 29 from (by rw [es_242]; exact up2_o (by omega))) (Eq.trans (show s_228 35 29 = s1 35 29 from (by rw [es_229]; exact up2_o (by omega))) (show s1 35 29 = σ 35 29 from hi4_7.2 29 (by first | omega | (dsimp only; omega)))))))))
            refine lv_iload hC.x hC.b dX10_closes_151 (lv_at hl 4 rfl) ?_
            have av_275 : (nI n).toInt = (n : Int) := (nI_T n (by omega))
            refine goip (runV (As := [.int (s_272 35 29), .int (nI n)]) (rest := [.ref (G.2.1 57), .long x3]) hC hK hR hl.1 (c_X10_at l hG s_272 t_270 (s_272 35 29) (((s_272 35 29).toInt).toNat) (by first | rfl | (rw [show (s_272 35 29).toInt = (s_272 35 29).toInt from rfl]; done) | (rw [show (s_272 35 29).toInt = (s_272 35 29).toInt from rfl]; exact rfl)) (nI n) n (by first | rfl | (rw [show (nI n).toInt = (n : Int) from (nI_T n (by omega))]; done) | (rw [show (nI n).toInt = (n : Int) from (nI_T n (by omega))]; exact (Int.toNat_natCast _))) (by omega) (by omega)) (call_b hC.ts TC_X10_at TN_X10 TM_X10_140 hd_X10_at ⟨Nat.le_of_ble_eq_true rfl, Nat.le_of_ble_eq_true rfl⟩) TI_X10_at TS_X10_at (ct_model G _ _) rfl rfl rfl (Nat.le_of_ble_eq_true rfl) dX10_closes_153 ⟨Nat.le_of_ble_eq_true rfl, Nat.le_of_ble_eq_true rfl⟩) hS (fun v_276 H locs w_277 hR hS => ?_)
            subst w_277
            rw [show s_272 35 29 = (σ 35 29) from (Eq.trans (show s_272 35 29 = s_269 35 29 from (by rw [es_273]; exact up2_o (by omega))) (Eq.trans (show s_269 35 29 = s_256 35 29 from f_271.2 29 (by first | omega | (dsimp only; omega))) (Eq.trans (show s_256 35 29 = s_253 35 29 from (by rw [es_257]; exact up2_o (by omega))) (Eq.trans (show s_253 35 29 = s_241 35 29 from f_255.2 29 (by first | omega | (dsimp only; omega))) (Eq.trans (show s_241 35 29 = s_228 35 29 from (by rw [es_242]; exact up2_o (by omega))) (Eq.trans (show s_228 35 29 = s1 35 29 from (by rw [es_229]; exact up2_o (by omega))) (show s1 35 29 = σ 35 29 from hi4_7.2 29 (by first | omega | (dsimp only; omega)))))))))]
            refine ald hC hK hR (ct_m_ws G _ _) (nI_T _ (by omega)) (by omega) (by omega) (Int.toNat_natCast _) dX10_closes_156 ?_
            have rd_278 : (s_272 57 (24 * (σ 35 29).toInt.toNat + n)).toInt = (FW6 (s_256 41 n).toInt (FT (pX s_256 n) (s_256 37 n).toInt (s_256 35 29).toInt (s_256 36 n).toInt) (pM s_256 n) (s_256 38 n).toInt (s_256 35 29).toInt).toInt := congrArg Int32.toInt (show s_272 57 (24 * (σ 35 29).toInt.toNat + n) = (FW6 (s_256 41 n).toInt (FT (pX s_256 n) (s_256 37 n).toInt (s_256 35 29).toInt (s_256 36 n).toInt) (pM s_256 n) (s_256 38 n).toInt (s_256 35 29).toInt) from (by rw [es_273]; exact up2_s))
            refine lv_i2l hC.x hC.b dX10_closes_157 rfl ?_
            refine lv_ladd hC.x hC.b dX10_closes_158 ?_
            refine lv_topl (fun x_279 ex_280 => ?_)
            refine lv_lstore_n (lv' := [(3, .long x_279), (2, .int x_232), (0, .ref (G.2.1 35)), (1, .int ra), (5, .int (nI n))]) hC.x hC.b dX10_closes_159 rfl hl (by decide) rfl (fun ls hl => ?_)
            refine lv_iinc (v := nI (n + 1)) (lv' := [(5, .int (nI (n + 1))), (3, .long x_279), (2, .int x_232), (0, .ref (G.2.1 35)), (1, .int ra)]) hC.x hC.b dX10_closes_160 hl (k := 4) rfl (nI_succ _).symm (by decide) rfl (fun ls hl => ?_)
            refine lv_goto (tgt := 7) hC.x hC.b dX10_closes_163 (by decide) ?_
            exact ih_7 x_232 x_279 (n + 1) s_272 t_270 (by omega) (by exact (by rw [es_273]; exact KM.up (KM.fr (by rw [es_257]; exact KM.up (KM.fr (by rw [es_242]; exact KM.up (by rw [es_229]; exact KM.u71 hi0_7 (by decide)) (by omega)) f_255 (by first | omega | (dsimp only; omega) | exact fun q => q) (by first | omega | (dsimp only; omega) | exact fun q => q) (by first | omega | (dsimp only; omega) | exact fun q => q) (by first | omega | (dsimp only; omega))) (by omega)) f_271 (by first | omega | (dsimp only; omega) | exact fun q => q) (by first | omega | (dsimp only; omega) | exact fun q => q) (by first | omega | (dsimp only; omega) | exact fun q => q) (by first | omega | (dsimp only; omega))) (by omega))) (by first | omega | assumption) (by first | exact CntR.p hi2_7 (pm_mk (K6.mr hi4_7 (by intro k h1 h2; first | omega | (dsimp only at h2; omega)) (by omega)) ⟨by omega, by omega, by omega, by omega⟩ (by assumption)) (by assumption) | exact CntR.q hi2_7 (qm_0 (K6.mr hi4_7 (by intro k h1 h2; first | omega | (dsimp only at h2; omega)) (by omega)) (by rintro ⟨h1, h2, h3, h4⟩; omega)) | exact CntR.q hi2_7 (qm_1 (K6.mr hi4_7 (by intro k h1 h2; first | omega | (dsimp only at h2; omega)) (by omega)) (by assumption)) | (exfalso; omega)) (by exfalso; omega) (by rw [es_273]; exact MRel.up ((MRel.tr (by rw [es_257]; exact MRel.up ((MRel.tr (by rw [es_242]; exact MRel.up ((by rw [es_229]; exact MRel.up (hi4_7) (by omega) (by first | omega | (dsimp only; omega)))) (by omega) (by first | omega | (dsimp only; omega))) (MRel.mfc f_255))) (by omega) (by first | omega | (dsimp only; omega))) (MRel.mfc f_271))) (by omega) (by first | omega | (dsimp only; omega))) _ _ _ hR hS (lv_sub hl [3, 4, 2, 1, 0] rfl)
          · skip
            refine lv_goto (tgt := 160) hC.x hC.b dX10_closes_59 (by decide) ?_
            refine lv_iinc (v := nI (n + 1)) (lv' := [(5, .int (nI (n + 1))), (0, .ref (G.2.1 35)), (1, .int ra), (2, .int x2), (3, .long x3)]) hC.x hC.b dX10_closes_160 hl (k := 4) rfl (nI_succ _).symm (by decide) rfl (fun ls hl => ?_)
            refine lv_goto (tgt := 7) hC.x hC.b dX10_closes_163 (by decide) ?_
            exact ih_7 x2 x3 (n + 1) s_228 t1 (by omega) (by exact (by rw [es_229]; exact KM.u71 hi0_7 (by decide))) (by first | omega | assumption) (by first | exact CntR.p hi2_7 (pm_mk (K6.mr hi4_7 (by intro k h1 h2; first | omega | (dsimp only at h2; omega)) (by omega)) ⟨by omega, by omega, by omega, by omega⟩ (by assumption)) (by assumption) | exact CntR.q hi2_7 (qm_0 (K6.mr hi4_7 (by intro k h1 h2; first | omega | (dsimp only at h2; omega)) (by omega)) (by rintro ⟨h1, h2, h3, h4⟩; omega)) | exact CntR.q hi2_7 (qm_1 (K6.mr hi4_7 (by intro k h1 h2; first | omega | (dsimp only at h2; omega)) (by omega)) (by assumption)) | (exfalso; omega)) (by first | exact MA6.q hi3_7 MRel.rf es_229 (qm_0 (K6.mr hi4_7 (by intro k h1 h2; first | omega | (dsimp only at h2; omega)) (by omega)) (by rintro ⟨h1, h2, h3, h4⟩; omega)) | (exfalso; omega)) (by rw [es_229]; exact MRel.up (hi4_7) (by omega) (by first | omega | (dsimp only; omega))) _ _ _ hR hS (lv_sub hl [1, 2, 3, 4, 0] rfl)
  exact L_7 _ (0 : Int32) (0 : Int64) 0 σ τ (Nat.lt_succ_self _) (by exact hkm) (by first | omega | assumption) (by exact CntR.z) (by exact MA6.st) MRel.rf _ _ _ hR hS (lv_sub hl [3, 4, 2, 1, 0] rfl)

abbrev po7_X10_close (σ : SI) (τ : SL) : Int32 → SI × SL → Prop := fun v u => ((v = (-1)) ∧ (MRel (fun k => (41 ≤ k ∧ k ≤ 46 ∧ k ≠ 42 ∧ k ≠ 43) ∨ (52 ≤ k ∧ k ≤ 69) ∨ k = 71) (fun j => j = 29 ∨ j = 33 ∨ j = 37 ∨ j = 41 ∨ j = 43 ∨ j = 44) σ u.1) ∧ ((σ 35 29).toInt = 200) ∧ (u.1 = σ)) ∨ ((MRel (fun k => (41 ≤ k ∧ k ≤ 46 ∧ k ≠ 42 ∧ k ≠ 43) ∨ (52 ≤ k ∧ k ≤ 69) ∨ k = 71) (fun j => j = 29 ∨ j = 33 ∨ j = 37 ∨ j = 41 ∨ j = 43 ∨ j = 44) σ u.1) ∧ ((σ 35 29).toInt < 200) ∧ (KM u.1) ∧ ((u.1 35 29).toInt = (σ 35 29).toInt + 1) ∧ ((0 < (σ 35 33).toInt ∧ (u.1 35 33).toInt = max 0 ((σ 35 33).toInt - (σ 35 32).toInt)) ∨ ((σ 35 33).toInt ≤ 0 ∧ (u.1 35 33).toInt = min 0 ((σ 35 33).toInt + (σ 35 32).toInt))) ∧ (CMV σ v) ∧ (ZC6 σ u.1 v))
set_option maxRecDepth 100000 in
set_option maxHeartbeats 4000000 in
theorem c7_X10_close (l : Launch) {G : Gx} {A : Nat → Prop} (hG : GOk G A) (σ : SI) (τ : SL) (hnw : 0 ≤ (σ 35 29).toInt ∧ (σ 35 29).toInt ≤ 200) (hof : -1000000 ≤ (σ 35 33).toInt ∧ (σ 35 33).toInt ≤ 1000000) (hpc : 0 ≤ (σ 35 32).toInt ∧ (σ 35 32).toInt ≤ 3599) (hln : LnM σ) (hcl : ClM σ) (hkm : KM σ) (hxb : XB σ) (hc6 : Cl6 σ) (hsq : SU6 σ) : MI l G A 7 yX10_close cX10_close 4 (some .int) [.ref (G.2.1 35)] (σ, τ) (po7_X10_close σ τ ) := by
  refine met_of (own := RX10) (by decide +kernel) rfl [(0, .ref (G.2.1 35))] rfl (Nat.le_of_ble_eq_true rfl) ?_
  intro p e s m args below meth c ls hC hK hR hl
  have hS : va_S A s.heap s.heap [] := va_S.rf
  refine lv_aload_n hC.x hC.b dX10_close_0 rfl (lv_at hl 0 rfl) ?_
  refine rget hC hK hR (ct_model G _ _) rfl uin_X10 29 (by decide) TF_X10_137 rfl dX10_close_1 ?_
  refine lv_sipush (v := 200) hC.x hC.b dX10_close_4 (by decide) ?_
  refine bi_ne (tgt := 12) (a := (σ 35 29).toInt) (b := 200) hC.x hC.b rfl rfl dX10_close_7 (by decide) (fun c_1 => ?_) (fun c_1 => ?_)
  · skip
    refine lv_iconst (v := 0) hC.x hC.b dX10_close_12 (by decide) ?_
    refine lv_istore_n (lv' := [(1, .int (0 : Int32)), (0, .ref (G.2.1 35))]) hC.x hC.b dX10_close_13 rfl hl (by decide) rfl (fun ls hl => ?_)
    have L_14 : ∀ (F : Nat) (n : Nat) (s1 : SI), (24 - n) < F → (KM s1) → (n ≤ 24) → ((s1 35 29).toInt = (σ 35 29).toInt ∧ (s1 35 33).toInt = (σ 35 33).toInt) → (MZ6 σ s1 n) → (MRel (fun k => (41 ≤ k ∧ k ≤ 46 ∧ k ≠ 42 ∧ k ≠ 43) ∨ (52 ≤ k ∧ k ≤ 69) ∨ k = 71) (fun j => j = 29 ∨ j = 33 ∨ j = 37 ∨ j = 41 ∨ j = 43 ∨ j = 44) σ s1) → ∀ (H : Heap) (locs : List Loc) (ls : Array Slot), RepH G s1 τ H → va_S A s.heap H locs → lv_has ls 4 [(0, .ref (G.2.1 35)), (1, .int (nI n))] → W p l e (rmD 7) s m args below meth c H locs 0 0 (MQ below (va_Qi (po7_X10_close σ τ ) (BU G) A) args s 0 0 A) (F0 m 14 ls []) := by
      intro F
      induction F with
      | zero => intro n s1 hm; exact absurd hm (Nat.not_lt_zero _)
      | succ F ih_14 =>
        intro n s1 hm_14 hi0_14 hi1_14 hi2_14 hi3_14 hi4_14 H locs ls hR hS hl
        have hnI := nI_T n (by omega)
        have e29z : s1 35 29 = σ 35 29 := by rw [hi3_14.1 35 (by decide) (by decide)]
        refine lv_iload_n hC.x hC.b dX10_close_14 rfl (lv_at hl 1 rfl) ?_
        refine lv_bipush (v := 24) hC.x hC.b dX10_close_15 (by decide) ?_
        refine bi_ge (tgt := 56) (a := (n : Int)) (b := 24) hC.x hC.b (nI_T n (by omega)) rfl dX10_close_17 (by decide) (fun c_2 => ?_) (fun c_2 => ?_)
        · skip
          refine lv_aload_n hC.x hC.b dX10_close_56 rfl (lv_at hl 0 rfl) ?_
          refine goip (runV (As := []) (rest := []) hC hK hR hl.1 (c4_X10_root l hG s1 τ  ) (call_b hC.ts TC_X10_root TN_X10 TM_X10_228 hd_X10_root ⟨Nat.le_of_ble_eq_true rfl, Nat.le_of_ble_eq_true rfl⟩) TI_X10_root TS_X10_root (ct_model G _ _) rfl rfl rfl (Nat.le_of_ble_eq_true rfl) dX10_close_57 ⟨Nat.le_of_ble_eq_true rfl, Nat.le_of_ble_eq_true rfl⟩) hS (fun v_3 H locs w_4 hR hS => ?_)
          obtain ⟨f_5, f_6⟩ := w_4
          refine lv_istore_n (lv' := [(1, .int v_3), (0, .ref (G.2.1 35))]) hC.x hC.b dX10_close_60 rfl hl (by decide) rfl (fun ls hl => ?_)
          refine lv_aload_n hC.x hC.b dX10_close_61 rfl (lv_at hl 1 rfl) ?_
          refine rget hC hK hR (ct_model G _ _) rfl uin_X10 23 (by decide) TF_X10_80 rfl dX10_close_62 ?_
          refine lv_aload_n hC.x hC.b dX10_close_65 rfl (lv_at hl 1 rfl) ?_
          refine rget hC hK hR (ct_model G _ _) rfl uin_X10 29 (by decide) TF_X10_137 rfl dX10_close_66 ?_
          refine lv_iload_n hC.x hC.b dX10_close_69 rfl (lv_at hl 0 rfl) ?_
          refine ast hC hK hG hR hS (fun _ => ct_m_roots G _ _) rfl (by omega) (by omega) rfl dX10_close_70 (fun s_7 es_8 H locs hR hS => ?_)
          refine lv_aload_n hC.x hC.b dX10_close_71 rfl (lv_at hl 1 rfl) ?_
          refine rget hC hK hR (ct_model G _ _) rfl uin_X10 24 (by decide) TF_X10_83 rfl dX10_close_72 ?_
          refine lv_aload_n hC.x hC.b dX10_close_75 rfl (lv_at hl 1 rfl) ?_
          refine rget hC hK hR (ct_model G _ _) rfl uin_X10 29 (by decide) TF_X10_137 rfl dX10_close_76 ?_
          have rd_9 : (s_7 35 29).toInt = (s1 35 29).toInt := congrArg Int32.toInt (show s_7 35 29 = s1 35 29 from (by rw [es_8]; exact up2_o (by omega)))
          rw [show s_7 35 29 = (s1 35 29) from (show s_7 35 29 = s1 35 29 from (by rw [es_8]; exact up2_o (by omega)))]
          refine lv_iconst (v := 0) hC.x hC.b dX10_close_79 (by decide) ?_
          refine ast hC hK hG hR hS (fun _ => ct_m_presents G _ _) rfl (by omega) (by omega) rfl dX10_close_80 (fun s_10 es_11 H locs hR hS => ?_)
          refine lv_aload_n hC.x hC.b dX10_close_81 rfl (lv_at hl 1 rfl) ?_
          refine rget hC hK hR (ct_model G _ _) rfl uin_X10 27 (by decide) TF_X10_92 rfl dX10_close_82 ?_
          refine lv_aload_n hC.x hC.b dX10_close_85 rfl (lv_at hl 1 rfl) ?_
          refine rget hC hK hR (ct_model G _ _) rfl uin_X10 29 (by decide) TF_X10_137 rfl dX10_close_86 ?_
          have rd_12 : (s_10 35 29).toInt = (s1 35 29).toInt := congrArg Int32.toInt (Eq.trans (show s_10 35 29 = s_7 35 29 from (by rw [es_11]; exact up2_o (by omega))) (show s_7 35 29 = s1 35 29 from (by rw [es_8]; exact up2_o (by omega))))
          rw [show s_10 35 29 = (s1 35 29) from (Eq.trans (show s_10 35 29 = s_7 35 29 from (by rw [es_11]; exact up2_o (by omega))) (show s_7 35 29 = s1 35 29 from (by rw [es_8]; exact up2_o (by omega))))]
          refine lv_aload_n hC.x hC.b dX10_close_89 rfl (lv_at hl 1 rfl) ?_
          refine rget hC hK hR (ct_model G _ _) rfl uin_X10 30 (by decide) TF_X10_98 rfl dX10_close_90 ?_
          have rd_13 : (s_10 35 30).toInt = (σ 35 30).toInt := congrArg Int32.toInt (Eq.trans (show s_10 35 30 = s_7 35 30 from (by rw [es_11]; exact up2_o (by omega))) (Eq.trans (show s_7 35 30 = s1 35 30 from (by rw [es_8]; exact up2_o (by omega))) (show s1 35 30 = σ 35 30 from hi4_14.2 30 (by first | omega | (dsimp only; omega)))))
          rw [show s_10 35 30 = (σ 35 30) from (Eq.trans (show s_10 35 30 = s_7 35 30 from (by rw [es_11]; exact up2_o (by omega))) (Eq.trans (show s_7 35 30 = s1 35 30 from (by rw [es_8]; exact up2_o (by omega))) (show s1 35 30 = σ 35 30 from hi4_14.2 30 (by first | omega | (dsimp only; omega)))))]
          refine ast hC hK hG hR hS (fun _ => ct_m_parts G _ _) rfl (by omega) (by omega) rfl dX10_close_93 (fun s_14 es_15 H locs hR hS => ?_)
          have L_109 : ∀ (x2 : Int32) (s5 : SI) (t5 : SL), (KM s5) → ((s5 35 29).toInt = (σ 35 29).toInt ∧ (s5 35 33).toInt = (σ 35 33).toInt) → (CMV σ x2) → (ZA6 σ s5 x2) → (MRel (fun k => (41 ≤ k ∧ k ≤ 46 ∧ k ≠ 42 ∧ k ≠ 43) ∨ (52 ≤ k ∧ k ≤ 69) ∨ k = 71) (fun j => j = 29 ∨ j = 33 ∨ j = 37 ∨ j = 41 ∨ j = 43 ∨ j = 44) σ s5) → ∀ (H : Heap) (locs : List Loc) (ls : Array Slot), RepH G s5 t5 H → va_S A s.heap H locs → lv_has ls 4 [(0, .ref (G.2.1 35)), (2, .int x2)] → W p l e (rmD 7) s m args below meth c H locs 0 0 (MQ below (va_Qi (po7_X10_close σ τ ) (BU G) A) args s 0 0 A) (F0 m 109 ls []) := by
            intro x2 s5 t5 hi0_109 hi1_109 hi2_109 hi3_109 hi4_109 H locs ls hR hS hl
            refine lv_aload_n hC.x hC.b dX10_close_109 rfl (lv_at hl 0 rfl) ?_
            refine rget hC hK hR (ct_model G _ _) rfl uin_X10 33 (by decide) TF_X10_235 rfl dX10_close_110 ?_
            refine bz_ge (tgt := 124) (a := (s5 35 33).toInt) (b := 0) hC.x hC.b rfl rfl dX10_close_113 (by decide) (fun c_16 => ?_) (fun c_16 => ?_)
            · skip
              refine lv_aload_n hC.x hC.b dX10_close_124 rfl (lv_at hl 0 rfl) ?_
              refine rget hC hK hR (ct_model G _ _) rfl uin_X10 33 (by decide) TF_X10_235 rfl dX10_close_125 ?_
              refine lv_istore_n (lv' := [(3, .int (s5 35 33)), (0, .ref (G.2.1 35)), (2, .int x2)]) hC.x hC.b dX10_close_128 rfl hl (by decide) rfl (fun ls hl => ?_)
              refine lv_iload_n hC.x hC.b dX10_close_129 rfl (lv_at hl 0 rfl) ?_
              refine lv_aload_n hC.x hC.b dX10_close_130 rfl (lv_at hl 1 rfl) ?_
              refine rget hC hK hR (ct_model G _ _) rfl uin_X10 32 (by decide) TF_X10_105 rfl dX10_close_131 ?_
              have rd_17 : (s5 35 32).toInt = (σ 35 32).toInt := congrArg Int32.toInt (show s5 35 32 = σ 35 32 from hi4_109.2 32 (by first | omega | (dsimp only; omega)))
              refine bi_ge (tgt := 141) (a := (s5 35 33).toInt) (b := (s5 35 32).toInt) hC.x hC.b rfl rfl dX10_close_134 (by decide) (fun c_18 => ?_) (fun c_18 => ?_)
              · skip
                refine lv_aload_n hC.x hC.b dX10_close_141 rfl (lv_at hl 1 rfl) ?_
                refine rget hC hK hR (ct_model G _ _) rfl uin_X10 32 (by decide) TF_X10_105 rfl dX10_close_142 ?_
                have rd_19 : (s5 35 32).toInt = (σ 35 32).toInt := congrArg Int32.toInt (show s5 35 32 = σ 35 32 from hi4_109.2 32 (by first | omega | (dsimp only; omega)))
                refine lv_istore_n (lv' := [(3, .int (s5 35 32)), (0, .ref (G.2.1 35)), (2, .int x2)]) hC.x hC.b dX10_close_145 rfl hl (by decide) rfl (fun ls hl => ?_)
                refine lv_aload_n hC.x hC.b dX10_close_146 rfl (lv_at hl 1 rfl) ?_
                refine lv_dup hC.x hC.b dX10_close_147 rfl ?_
                refine rget hC hK hR (ct_model G _ _) rfl uin_X10 33 (by decide) TF_X10_235 rfl dX10_close_148 ?_
                refine lv_aload_n hC.x hC.b dX10_close_151 rfl (lv_at hl 1 rfl) ?_
                refine rget hC hK hR (ct_model G _ _) rfl uin_X10 33 (by decide) TF_X10_235 rfl dX10_close_152 ?_
                refine bz_ge (tgt := 163) (a := (s5 35 33).toInt) (b := 0) hC.x hC.b rfl rfl dX10_close_155 (by decide) (fun c_20 => ?_) (fun c_20 => ?_)
                · skip
                  refine lv_iload_n hC.x hC.b dX10_close_163 rfl (lv_at hl 0 rfl) ?_
                  refine lv_isub hC.x hC.b dX10_close_164 ?_
                  have pr_21 : ((s5 35 33) - (s5 35 32)).toInt = ((s5 35 33).toInt - (s5 35 32).toInt) := subI rfl rfl (by omega) (by omega)
                  refine rputi hC hK hG hR hS (ct_model G _ _) rfl uin_X10 tyX10 tyX10_ok nmX10 33 (by decide) TF_X10_235 rfl (Or.inl rfl) (Nat.le_of_ble_eq_true rfl) rfl (ct_model G _ _) dX10_close_165 (fun s_23 es_22 H locs hR hS => ?_)
                  refine lv_aload_n hC.x hC.b dX10_close_168 rfl (lv_at hl 1 rfl) ?_
                  refine rget hC hK hR (ct_model G _ _) rfl uin_X10 26 (by decide) TF_X10_89 rfl dX10_close_169 ?_
                  refine lv_aload_n hC.x hC.b dX10_close_172 rfl (lv_at hl 1 rfl) ?_
                  refine rget hC hK hR (ct_model G _ _) rfl uin_X10 29 (by decide) TF_X10_137 rfl dX10_close_173 ?_
                  have rd_24 : (s_23 35 29).toInt = (s5 35 29).toInt := congrArg Int32.toInt (show s_23 35 29 = s5 35 29 from (by rw [es_22]; exact up2_n (by omega)))
                  rw [show s_23 35 29 = (s5 35 29) from (show s_23 35 29 = s5 35 29 from (by rw [es_22]; exact up2_n (by omega)))]
                  refine lv_aload_n hC.x hC.b dX10_close_176 rfl (lv_at hl 1 rfl) ?_
                  refine rget hC hK hR (ct_model G _ _) rfl uin_X10 33 (by decide) TF_X10_235 rfl dX10_close_177 ?_
                  have rd_25 : (s_23 35 33).toInt = ((s5 35 33) - (s5 35 32)).toInt := congrArg Int32.toInt (show s_23 35 33 = ((s5 35 33) - (s5 35 32)) from (by rw [es_22]; exact up2_s))
                  refine ast hC hK hG hR hS (fun _ => ct_m_offs G _ _) rfl (by omega) (by omega) rfl dX10_close_180 (fun s_26 es_27 H locs hR hS => ?_)
                  refine lv_aload_n hC.x hC.b dX10_close_181 rfl (lv_at hl 1 rfl) ?_
                  refine lv_dup hC.x hC.b dX10_close_182 rfl ?_
                  refine rget hC hK hR (ct_model G _ _) rfl uin_X10 29 (by decide) TF_X10_137 rfl dX10_close_183 ?_
                  have rd_28 : (s_26 35 29).toInt = (s5 35 29).toInt := congrArg Int32.toInt (Eq.trans (show s_26 35 29 = s_23 35 29 from (by rw [es_27]; exact up2_o (by omega))) (show s_23 35 29 = s5 35 29 from (by rw [es_22]; exact up2_n (by omega))))
                  refine lv_iconst (v := 1) hC.x hC.b dX10_close_186 (by decide) ?_
                  refine lv_iadd hC.x hC.b dX10_close_187 ?_
                  have pr_29 : ((s_26 35 29) + (1 : Int32)).toInt = ((s_26 35 29).toInt + 1) := addI rfl rfl (by omega) (by omega)
                  refine rputi hC hK hG hR hS (ct_model G _ _) rfl uin_X10 tyX10 tyX10_ok nmX10 29 (by decide) TF_X10_137 rfl (Or.inl rfl) (Nat.le_of_ble_eq_true rfl) rfl (ct_model G _ _) dX10_close_188 (fun s_31 es_30 H locs hR hS => ?_)
                  refine lv_iload_n hC.x hC.b dX10_close_191 rfl (lv_at hl 2 rfl) ?_
                  have rd_32 : (s_31 35 29).toInt = ((s_26 35 29) + (1 : Int32)).toInt := congrArg Int32.toInt (show s_31 35 29 = ((s_26 35 29) + (1 : Int32)) from (by rw [es_30]; exact up2_s))
                  have rd_33 : (s_31 35 33).toInt = ((s5 35 33) - (s5 35 32)).toInt := congrArg Int32.toInt (Eq.trans (show s_31 35 33 = s_26 35 33 from (by rw [es_30]; exact up2_n (by omega))) (Eq.trans (show s_26 35 33 = s_23 35 33 from (by rw [es_27]; exact up2_o (by omega))) (show s_23 35 33 = ((s5 35 33) - (s5 35 32)) from (by rw [es_22]; exact up2_s))))
                  exact reti hC hK hR hS (by first | exact Or.inl (⟨by subst es_30; subst es_27; subst es_22; (first | rfl | omega), by exact (by rw [es_30]; exact MRel.upm ((by rw [es_27]; exact MRel.up ((by rw [es_22]; exact MRel.upm (hi4_109) (by first | omega | (dsimp only; omega)))) (by omega) (by first | omega | (dsimp only; omega)))) (by first | omega | (dsimp only; omega))), by subst es_30; subst es_27; subst es_22; (first | omega | assumption), by subst es_30; subst es_27; subst es_22; (rfl)⟩) | exact Or.inr ((⟨by exact (by rw [es_30]; exact MRel.upm ((by rw [es_27]; exact MRel.up ((by rw [es_22]; exact MRel.upm (hi4_109) (by first | omega | (dsimp only; omega)))) (by omega) (by first | omega | (dsimp only; omega)))) (by first | omega | (dsimp only; omega))), by subst es_30; subst es_27; subst es_22; (first | omega | assumption), by exact (by rw [es_30]; exact KM.u35 (by rw [es_27]; exact KM.up (by rw [es_22]; exact KM.u35 hi0_109 (by omega)) (by omega)) (by omega)), by first | omega | (dsimp only; omega), by first | omega | (dsimp only; omega), by assumption, by (try dsimp only); exact zc_mk hi3_109 es_22 es_27 es_30 hi1_109.1⟩)) | exact False.elim (by omega)) dX10_close_192
                · skip
                  refine lv_iload_n hC.x hC.b dX10_close_158 rfl (lv_at hl 0 rfl) ?_
                  refine lv_ineg hC.x hC.b dX10_close_159 ?_
                  have pr_34 : (-(s5 35 32)).toInt = (-((s5 35 32).toInt)) := negI rfl (by omega)
                  refine lv_goto (tgt := 164) hC.x hC.b dX10_close_160 (by decide) ?_
                  refine lv_isub hC.x hC.b dX10_close_164 ?_
                  have pr_35 : ((s5 35 33) - (-(s5 35 32))).toInt = ((s5 35 33).toInt - (-((s5 35 32).toInt))) := subI rfl pr_34 (by omega) (by omega)
                  refine rputi hC hK hG hR hS (ct_model G _ _) rfl uin_X10 tyX10 tyX10_ok nmX10 33 (by decide) TF_X10_235 rfl (Or.inl rfl) (Nat.le_of_ble_eq_true rfl) rfl (ct_model G _ _) dX10_close_165 (fun s_37 es_36 H locs hR hS => ?_)
                  refine lv_aload_n hC.x hC.b dX10_close_168 rfl (lv_at hl 1 rfl) ?_
                  refine rget hC hK hR (ct_model G _ _) rfl uin_X10 26 (by decide) TF_X10_89 rfl dX10_close_169 ?_
                  refine lv_aload_n hC.x hC.b dX10_close_172 rfl (lv_at hl 1 rfl) ?_
                  refine rget hC hK hR (ct_model G _ _) rfl uin_X10 29 (by decide) TF_X10_137 rfl dX10_close_173 ?_
                  have rd_38 : (s_37 35 29).toInt = (s5 35 29).toInt := congrArg Int32.toInt (show s_37 35 29 = s5 35 29 from (by rw [es_36]; exact up2_n (by omega)))
                  rw [show s_37 35 29 = (s5 35 29) from (show s_37 35 29 = s5 35 29 from (by rw [es_36]; exact up2_n (by omega)))]
                  refine lv_aload_n hC.x hC.b dX10_close_176 rfl (lv_at hl 1 rfl) ?_
                  refine rget hC hK hR (ct_model G _ _) rfl uin_X10 33 (by decide) TF_X10_235 rfl dX10_close_177 ?_
                  have rd_39 : (s_37 35 33).toInt = ((s5 35 33) - (-(s5 35 32))).toInt := congrArg Int32.toInt (show s_37 35 33 = ((s5 35 33) - (-(s5 35 32))) from (by rw [es_36]; exact up2_s))
                  refine ast hC hK hG hR hS (fun _ => ct_m_offs G _ _) rfl (by omega) (by omega) rfl dX10_close_180 (fun s_40 es_41 H locs hR hS => ?_)
                  refine lv_aload_n hC.x hC.b dX10_close_181 rfl (lv_at hl 1 rfl) ?_
                  refine lv_dup hC.x hC.b dX10_close_182 rfl ?_
                  refine rget hC hK hR (ct_model G _ _) rfl uin_X10 29 (by decide) TF_X10_137 rfl dX10_close_183 ?_
                  have rd_42 : (s_40 35 29).toInt = (s5 35 29).toInt := congrArg Int32.toInt (Eq.trans (show s_40 35 29 = s_37 35 29 from (by rw [es_41]; exact up2_o (by omega))) (show s_37 35 29 = s5 35 29 from (by rw [es_36]; exact up2_n (by omega))))
                  refine lv_iconst (v := 1) hC.x hC.b dX10_close_186 (by decide) ?_
                  refine lv_iadd hC.x hC.b dX10_close_187 ?_
                  have pr_43 : ((s_40 35 29) + (1 : Int32)).toInt = ((s_40 35 29).toInt + 1) := addI rfl rfl (by omega) (by omega)
                  refine rputi hC hK hG hR hS (ct_model G _ _) rfl uin_X10 tyX10 tyX10_ok nmX10 29 (by decide) TF_X10_137 rfl (Or.inl rfl) (Nat.le_of_ble_eq_true rfl) rfl (ct_model G _ _) dX10_close_188 (fun s_45 es_44 H locs hR hS => ?_)
                  refine lv_iload_n hC.x hC.b dX10_close_191 rfl (lv_at hl 2 rfl) ?_
                  have rd_46 : (s_45 35 29).toInt = ((s_40 35 29) + (1 : Int32)).toInt := congrArg Int32.toInt (show s_45 35 29 = ((s_40 35 29) + (1 : Int32)) from (by rw [es_44]; exact up2_s))
                  have rd_47 : (s_45 35 33).toInt = ((s5 35 33) - (-(s5 35 32))).toInt := congrArg Int32.toInt (Eq.trans (show s_45 35 33 = s_40 35 33 from (by rw [es_44]; exact up2_n (by omega))) (Eq.trans (show s_40 35 33 = s_37 35 33 from (by rw [es_41]; exact up2_o (by omega))) (show s_37 35 33 = ((s5 35 33) - (-(s5 35 32))) from (by rw [es_36]; exact up2_s))))
                  exact reti hC hK hR hS (by first | exact Or.inl (⟨by subst es_44; subst es_41; subst es_36; (first | rfl | omega), by exact (by rw [es_44]; exact MRel.upm ((by rw [es_41]; exact MRel.up ((by rw [es_36]; exact MRel.upm (hi4_109) (by first | omega | (dsimp only; omega)))) (by omega) (by first | omega | (dsimp only; omega)))) (by first | omega | (dsimp only; omega))), by subst es_44; subst es_41; subst es_36; (first | omega | assumption), by subst es_44; subst es_41; subst es_36; (rfl)⟩) | exact Or.inr ((⟨by exact (by rw [es_44]; exact MRel.upm ((by rw [es_41]; exact MRel.up ((by rw [es_36]; exact MRel.upm (hi4_109) (by first | omega | (dsimp only; omega)))) (by omega) (by first | omega | (dsimp only; omega)))) (by first | omega | (dsimp only; omega))), by subst es_44; subst es_41; subst es_36; (first | omega | assumption), by exact (by rw [es_44]; exact KM.u35 (by rw [es_41]; exact KM.up (by rw [es_36]; exact KM.u35 hi0_109 (by omega)) (by omega)) (by omega)), by first | omega | (dsimp only; omega), by first | omega | (dsimp only; omega), by assumption, by (try dsimp only); exact zc_mk hi3_109 es_36 es_41 es_44 hi1_109.1⟩)) | exact False.elim (by omega)) dX10_close_192
              · skip
                refine lv_iload_n hC.x hC.b dX10_close_137 rfl (lv_at hl 0 rfl) ?_
                refine lv_goto (tgt := 145) hC.x hC.b dX10_close_138 (by decide) ?_
                refine lv_istore_n (lv' := [(3, .int (s5 35 33)), (0, .ref (G.2.1 35)), (2, .int x2)]) hC.x hC.b dX10_close_145 rfl hl (by decide) rfl (fun ls hl => ?_)
                refine lv_aload_n hC.x hC.b dX10_close_146 rfl (lv_at hl 1 rfl) ?_
                refine lv_dup hC.x hC.b dX10_close_147 rfl ?_
                refine rget hC hK hR (ct_model G _ _) rfl uin_X10 33 (by decide) TF_X10_235 rfl dX10_close_148 ?_
                refine lv_aload_n hC.x hC.b dX10_close_151 rfl (lv_at hl 1 rfl) ?_
                refine rget hC hK hR (ct_model G _ _) rfl uin_X10 33 (by decide) TF_X10_235 rfl dX10_close_152 ?_
                refine bz_ge (tgt := 163) (a := (s5 35 33).toInt) (b := 0) hC.x hC.b rfl rfl dX10_close_155 (by decide) (fun c_48 => ?_) (fun c_48 => ?_)
                · skip
                  refine lv_iload_n hC.x hC.b dX10_close_163 rfl (lv_at hl 0 rfl) ?_
                  refine lv_isub hC.x hC.b dX10_close_164 ?_
                  have pr_49 : ((s5 35 33) - (s5 35 33)).toInt = ((s5 35 33).toInt - (s5 35 33).toInt) := subI rfl rfl (by omega) (by omega)
                  refine rputi hC hK hG hR hS (ct_model G _ _) rfl uin_X10 tyX10 tyX10_ok nmX10 33 (by decide) TF_X10_235 rfl (Or.inl rfl) (Nat.le_of_ble_eq_true rfl) rfl (ct_model G _ _) dX10_close_165 (fun s_51 es_50 H locs hR hS => ?_)
                  refine lv_aload_n hC.x hC.b dX10_close_168 rfl (lv_at hl 1 rfl) ?_
                  refine rget hC hK hR (ct_model G _ _) rfl uin_X10 26 (by decide) TF_X10_89 rfl dX10_close_169 ?_
                  refine lv_aload_n hC.x hC.b dX10_close_172 rfl (lv_at hl 1 rfl) ?_
                  refine rget hC hK hR (ct_model G _ _) rfl uin_X10 29 (by decide) TF_X10_137 rfl dX10_close_173 ?_
                  have rd_52 : (s_51 35 29).toInt = (s5 35 29).toInt := congrArg Int32.toInt (show s_51 35 29 = s5 35 29 from (by rw [es_50]; exact up2_n (by omega)))
                  rw [show s_51 35 29 = (s5 35 29) from (show s_51 35 29 = s5 35 29 from (by rw [es_50]; exact up2_n (by omega)))]
                  refine lv_aload_n hC.x hC.b dX10_close_176 rfl (lv_at hl 1 rfl) ?_
                  refine rget hC hK hR (ct_model G _ _) rfl uin_X10 33 (by decide) TF_X10_235 rfl dX10_close_177 ?_
                  have rd_53 : (s_51 35 33).toInt = ((s5 35 33) - (s5 35 33)).toInt := congrArg Int32.toInt (show s_51 35 33 = ((s5 35 33) - (s5 35 33)) from (by rw [es_50]; exact up2_s))
                  refine ast hC hK hG hR hS (fun _ => ct_m_offs G _ _) rfl (by omega) (by omega) rfl dX10_close_180 (fun s_54 es_55 H locs hR hS => ?_)
                  refine lv_aload_n hC.x hC.b dX10_close_181 rfl (lv_at hl 1 rfl) ?_
                  refine lv_dup hC.x hC.b dX10_close_182 rfl ?_
                  refine rget hC hK hR (ct_model G _ _) rfl uin_X10 29 (by decide) TF_X10_137 rfl dX10_close_183 ?_
                  have rd_56 : (s_54 35 29).toInt = (s5 35 29).toInt := congrArg Int32.toInt (Eq.trans (show s_54 35 29 = s_51 35 29 from (by rw [es_55]; exact up2_o (by omega))) (show s_51 35 29 = s5 35 29 from (by rw [es_50]; exact up2_n (by omega))))
                  refine lv_iconst (v := 1) hC.x hC.b dX10_close_186 (by decide) ?_
                  refine lv_iadd hC.x hC.b dX10_close_187 ?_
                  have pr_57 : ((s_54 35 29) + (1 : Int32)).toInt = ((s_54 35 29).toInt + 1) := addI rfl rfl (by omega) (by omega)
                  refine rputi hC hK hG hR hS (ct_model G _ _) rfl uin_X10 tyX10 tyX10_ok nmX10 29 (by decide) TF_X10_137 rfl (Or.inl rfl) (Nat.le_of_ble_eq_true rfl) rfl (ct_model G _ _) dX10_close_188 (fun s_59 es_58 H locs hR hS => ?_)
                  refine lv_iload_n hC.x hC.b dX10_close_191 rfl (lv_at hl 2 rfl) ?_
                  have rd_60 : (s_59 35 29).toInt = ((s_54 35 29) + (1 : Int32)).toInt := congrArg Int32.toInt (show s_59 35 29 = ((s_54 35 29) + (1 : Int32)) from (by rw [es_58]; exact up2_s))
                  have rd_61 : (s_59 35 33).toInt = ((s5 35 33) - (s5 35 33)).toInt := congrArg Int32.toInt (Eq.trans (show s_59 35 33 = s_54 35 33 from (by rw [es_58]; exact up2_n (by omega))) (Eq.trans (show s_54 35 33 = s_51 35 33 from (by rw [es_55]; exact up2_o (by omega))) (show s_51 35 33 = ((s5 35 33) - (s5 35 33)) from (by rw [es_50]; exact up2_s))))
                  exact reti hC hK hR hS (by first | exact Or.inl (⟨by subst es_58; subst es_55; subst es_50; (first | rfl | omega), by exact (by rw [es_58]; exact MRel.upm ((by rw [es_55]; exact MRel.up ((by rw [es_50]; exact MRel.upm (hi4_109) (by first | omega | (dsimp only; omega)))) (by omega) (by first | omega | (dsimp only; omega)))) (by first | omega | (dsimp only; omega))), by subst es_58; subst es_55; subst es_50; (first | omega | assumption), by subst es_58; subst es_55; subst es_50; (rfl)⟩) | exact Or.inr ((⟨by exact (by rw [es_58]; exact MRel.upm ((by rw [es_55]; exact MRel.up ((by rw [es_50]; exact MRel.upm (hi4_109) (by first | omega | (dsimp only; omega)))) (by omega) (by first | omega | (dsimp only; omega)))) (by first | omega | (dsimp only; omega))), by subst es_58; subst es_55; subst es_50; (first | omega | assumption), by exact (by rw [es_58]; exact KM.u35 (by rw [es_55]; exact KM.up (by rw [es_50]; exact KM.u35 hi0_109 (by omega)) (by omega)) (by omega)), by first | omega | (dsimp only; omega), by first | omega | (dsimp only; omega), by assumption, by (try dsimp only); exact zc_mk hi3_109 es_50 es_55 es_58 hi1_109.1⟩)) | exact False.elim (by omega)) dX10_close_192
                · skip
                  refine lv_iload_n hC.x hC.b dX10_close_158 rfl (lv_at hl 0 rfl) ?_
                  refine lv_ineg hC.x hC.b dX10_close_159 ?_
                  have pr_62 : (-(s5 35 33)).toInt = (-((s5 35 33).toInt)) := negI rfl (by omega)
                  refine lv_goto (tgt := 164) hC.x hC.b dX10_close_160 (by decide) ?_
                  refine lv_isub hC.x hC.b dX10_close_164 ?_
                  have pr_63 : ((s5 35 33) - (-(s5 35 33))).toInt = ((s5 35 33).toInt - (-((s5 35 33).toInt))) := subI rfl pr_62 (by omega) (by omega)
                  refine rputi hC hK hG hR hS (ct_model G _ _) rfl uin_X10 tyX10 tyX10_ok nmX10 33 (by decide) TF_X10_235 rfl (Or.inl rfl) (Nat.le_of_ble_eq_true rfl) rfl (ct_model G _ _) dX10_close_165 (fun s_65 es_64 H locs hR hS => ?_)
                  refine lv_aload_n hC.x hC.b dX10_close_168 rfl (lv_at hl 1 rfl) ?_
                  refine rget hC hK hR (ct_model G _ _) rfl uin_X10 26 (by decide) TF_X10_89 rfl dX10_close_169 ?_
                  refine lv_aload_n hC.x hC.b dX10_close_172 rfl (lv_at hl 1 rfl) ?_
                  refine rget hC hK hR (ct_model G _ _) rfl uin_X10 29 (by decide) TF_X10_137 rfl dX10_close_173 ?_
                  have rd_66 : (s_65 35 29).toInt = (s5 35 29).toInt := congrArg Int32.toInt (show s_65 35 29 = s5 35 29 from (by rw [es_64]; exact up2_n (by omega)))
                  rw [show s_65 35 29 = (s5 35 29) from (show s_65 35 29 = s5 35 29 from (by rw [es_64]; exact up2_n (by omega)))]
                  refine lv_aload_n hC.x hC.b dX10_close_176 rfl (lv_at hl 1 rfl) ?_
                  refine rget hC hK hR (ct_model G _ _) rfl uin_X10 33 (by decide) TF_X10_235 rfl dX10_close_177 ?_
                  have rd_67 : (s_65 35 33).toInt = ((s5 35 33) - (-(s5 35 33))).toInt := congrArg Int32.toInt (show s_65 35 33 = ((s5 35 33) - (-(s5 35 33))) from (by rw [es_64]; exact up2_s))
                  refine ast hC hK hG hR hS (fun _ => ct_m_offs G _ _) rfl (by omega) (by omega) rfl dX10_close_180 (fun s_68 es_69 H locs hR hS => ?_)
                  refine lv_aload_n hC.x hC.b dX10_close_181 rfl (lv_at hl 1 rfl) ?_
                  refine lv_dup hC.x hC.b dX10_close_182 rfl ?_
                  refine rget hC hK hR (ct_model G _ _) rfl uin_X10 29 (by decide) TF_X10_137 rfl dX10_close_183 ?_
                  have rd_70 : (s_68 35 29).toInt = (s5 35 29).toInt := congrArg Int32.toInt (Eq.trans (show s_68 35 29 = s_65 35 29 from (by rw [es_69]; exact up2_o (by omega))) (show s_65 35 29 = s5 35 29 from (by rw [es_64]; exact up2_n (by omega))))
                  refine lv_iconst (v := 1) hC.x hC.b dX10_close_186 (by decide) ?_
                  refine lv_iadd hC.x hC.b dX10_close_187 ?_
                  have pr_71 : ((s_68 35 29) + (1 : Int32)).toInt = ((s_68 35 29).toInt + 1) := addI rfl rfl (by omega) (by omega)
                  refine rputi hC hK hG hR hS (ct_model G _ _) rfl uin_X10 tyX10 tyX10_ok nmX10 29 (by decide) TF_X10_137 rfl (Or.inl rfl) (Nat.le_of_ble_eq_true rfl) rfl (ct_model G _ _) dX10_close_188 (fun s_73 es_72 H locs hR hS => ?_)
                  refine lv_iload_n hC.x hC.b dX10_close_191 rfl (lv_at hl 2 rfl) ?_
                  have rd_74 : (s_73 35 29).toInt = ((s_68 35 29) + (1 : Int32)).toInt := congrArg Int32.toInt (show s_73 35 29 = ((s_68 35 29) + (1 : Int32)) from (by rw [es_72]; exact up2_s))
                  have rd_75 : (s_73 35 33).toInt = ((s5 35 33) - (-(s5 35 33))).toInt := congrArg Int32.toInt (Eq.trans (show s_73 35 33 = s_68 35 33 from (by rw [es_72]; exact up2_n (by omega))) (Eq.trans (show s_68 35 33 = s_65 35 33 from (by rw [es_69]; exact up2_o (by omega))) (show s_65 35 33 = ((s5 35 33) - (-(s5 35 33))) from (by rw [es_64]; exact up2_s))))
                  exact reti hC hK hR hS (by first | exact Or.inl (⟨by subst es_72; subst es_69; subst es_64; (first | rfl | omega), by exact (by rw [es_72]; exact MRel.upm ((by rw [es_69]; exact MRel.up ((by rw [es_64]; exact MRel.upm (hi4_109) (by first | omega | (dsimp only; omega)))) (by omega) (by first | omega | (dsimp only; omega)))) (by first | omega | (dsimp only; omega))), by subst es_72; subst es_69; subst es_64; (first | omega | assumption), by subst es_72; subst es_69; subst es_64; (rfl)⟩) | exact Or.inr ((⟨by exact (by rw [es_72]; exact MRel.upm ((by rw [es_69]; exact MRel.up ((by rw [es_64]; exact MRel.upm (hi4_109) (by first | omega | (dsimp only; omega)))) (by omega) (by first | omega | (dsimp only; omega)))) (by first | omega | (dsimp only; omega))), by subst es_72; subst es_69; subst es_64; (first | omega | assumption), by exact (by rw [es_72]; exact KM.u35 (by rw [es_69]; exact KM.up (by rw [es_64]; exact KM.u35 hi0_109 (by omega)) (by omega)) (by omega)), by first | omega | (dsimp only; omega), by first | omega | (dsimp only; omega), by assumption, by (try dsimp only); exact zc_mk hi3_109 es_64 es_69 es_72 hi1_109.1⟩)) | exact False.elim (by omega)) dX10_close_192
            · skip
              refine lv_aload_n hC.x hC.b dX10_close_116 rfl (lv_at hl 0 rfl) ?_
              refine rget hC hK hR (ct_model G _ _) rfl uin_X10 33 (by decide) TF_X10_235 rfl dX10_close_117 ?_
              refine lv_ineg hC.x hC.b dX10_close_120 ?_
              have pr_76 : (-(s5 35 33)).toInt = (-((s5 35 33).toInt)) := negI rfl (by omega)
              refine lv_goto (tgt := 128) hC.x hC.b dX10_close_121 (by decide) ?_
              refine lv_istore_n (lv' := [(3, .int (-(s5 35 33))), (0, .ref (G.2.1 35)), (2, .int x2)]) hC.x hC.b dX10_close_128 rfl hl (by decide) rfl (fun ls hl => ?_)
              refine lv_iload_n hC.x hC.b dX10_close_129 rfl (lv_at hl 0 rfl) ?_
              refine lv_aload_n hC.x hC.b dX10_close_130 rfl (lv_at hl 1 rfl) ?_
              refine rget hC hK hR (ct_model G _ _) rfl uin_X10 32 (by decide) TF_X10_105 rfl dX10_close_131 ?_
              have rd_77 : (s5 35 32).toInt = (σ 35 32).toInt := congrArg Int32.toInt (show s5 35 32 = σ 35 32 from hi4_109.2 32 (by first | omega | (dsimp only; omega)))
              refine bi_ge (tgt := 141) (a := (-((s5 35 33).toInt))) (b := (s5 35 32).toInt) hC.x hC.b pr_76 rfl dX10_close_134 (by decide) (fun c_78 => ?_) (fun c_78 => ?_)
              · skip
                refine lv_aload_n hC.x hC.b dX10_close_141 rfl (lv_at hl 1 rfl) ?_
                refine rget hC hK hR (ct_model G _ _) rfl uin_X10 32 (by decide) TF_X10_105 rfl dX10_close_142 ?_
                have rd_79 : (s5 35 32).toInt = (σ 35 32).toInt := congrArg Int32.toInt (show s5 35 32 = σ 35 32 from hi4_109.2 32 (by first | omega | (dsimp only; omega)))
                refine lv_istore_n (lv' := [(3, .int (s5 35 32)), (0, .ref (G.2.1 35)), (2, .int x2)]) hC.x hC.b dX10_close_145 rfl hl (by decide) rfl (fun ls hl => ?_)
                refine lv_aload_n hC.x hC.b dX10_close_146 rfl (lv_at hl 1 rfl) ?_
                refine lv_dup hC.x hC.b dX10_close_147 rfl ?_
                refine rget hC hK hR (ct_model G _ _) rfl uin_X10 33 (by decide) TF_X10_235 rfl dX10_close_148 ?_
                refine lv_aload_n hC.x hC.b dX10_close_151 rfl (lv_at hl 1 rfl) ?_
                refine rget hC hK hR (ct_model G _ _) rfl uin_X10 33 (by decide) TF_X10_235 rfl dX10_close_152 ?_
                refine bz_ge (tgt := 163) (a := (s5 35 33).toInt) (b := 0) hC.x hC.b rfl rfl dX10_close_155 (by decide) (fun c_80 => ?_) (fun c_80 => ?_)
                · skip
                  refine lv_iload_n hC.x hC.b dX10_close_163 rfl (lv_at hl 0 rfl) ?_
                  refine lv_isub hC.x hC.b dX10_close_164 ?_
                  have pr_81 : ((s5 35 33) - (s5 35 32)).toInt = ((s5 35 33).toInt - (s5 35 32).toInt) := subI rfl rfl (by omega) (by omega)
                  refine rputi hC hK hG hR hS (ct_model G _ _) rfl uin_X10 tyX10 tyX10_ok nmX10 33 (by decide) TF_X10_235 rfl (Or.inl rfl) (Nat.le_of_ble_eq_true rfl) rfl (ct_model G _ _) dX10_close_165 (fun s_83 es_82 H locs hR hS => ?_)
                  refine lv_aload_n hC.x hC.b dX10_close_168 rfl (lv_at hl 1 rfl) ?_
                  refine rget hC hK hR (ct_model G _ _) rfl uin_X10 26 (by decide) TF_X10_89 rfl dX10_close_169 ?_
                  refine lv_aload_n hC.x hC.b dX10_close_172 rfl (lv_at hl 1 rfl) ?_
                  refine rget hC hK hR (ct_model G _ _) rfl uin_X10 29 (by decide) TF_X10_137 rfl dX10_close_173 ?_
                  have rd_84 : (s_83 35 29).toInt = (s5 35 29).toInt := congrArg Int32.toInt (show s_83 35 29 = s5 35 29 from (by rw [es_82]; exact up2_n (by omega)))
                  rw [show s_83 35 29 = (s5 35 29) from (show s_83 35 29 = s5 35 29 from (by rw [es_82]; exact up2_n (by omega)))]
                  refine lv_aload_n hC.x hC.b dX10_close_176 rfl (lv_at hl 1 rfl) ?_
                  refine rget hC hK hR (ct_model G _ _) rfl uin_X10 33 (by decide) TF_X10_235 rfl dX10_close_177 ?_
                  have rd_85 : (s_83 35 33).toInt = ((s5 35 33) - (s5 35 32)).toInt := congrArg Int32.toInt (show s_83 35 33 = ((s5 35 33) - (s5 35 32)) from (by rw [es_82]; exact up2_s))
                  refine ast hC hK hG hR hS (fun _ => ct_m_offs G _ _) rfl (by omega) (by omega) rfl dX10_close_180 (fun s_86 es_87 H locs hR hS => ?_)
                  refine lv_aload_n hC.x hC.b dX10_close_181 rfl (lv_at hl 1 rfl) ?_
                  refine lv_dup hC.x hC.b dX10_close_182 rfl ?_
                  refine rget hC hK hR (ct_model G _ _) rfl uin_X10 29 (by decide) TF_X10_137 rfl dX10_close_183 ?_
                  have rd_88 : (s_86 35 29).toInt = (s5 35 29).toInt := congrArg Int32.toInt (Eq.trans (show s_86 35 29 = s_83 35 29 from (by rw [es_87]; exact up2_o (by omega))) (show s_83 35 29 = s5 35 29 from (by rw [es_82]; exact up2_n (by omega))))
                  refine lv_iconst (v := 1) hC.x hC.b dX10_close_186 (by decide) ?_
                  refine lv_iadd hC.x hC.b dX10_close_187 ?_
                  have pr_89 : ((s_86 35 29) + (1 : Int32)).toInt = ((s_86 35 29).toInt + 1) := addI rfl rfl (by omega) (by omega)
                  refine rputi hC hK hG hR hS (ct_model G _ _) rfl uin_X10 tyX10 tyX10_ok nmX10 29 (by decide) TF_X10_137 rfl (Or.inl rfl) (Nat.le_of_ble_eq_true rfl) rfl (ct_model G _ _) dX10_close_188 (fun s_91 es_90 H locs hR hS => ?_)
                  refine lv_iload_n hC.x hC.b dX10_close_191 rfl (lv_at hl 2 rfl) ?_
                  have rd_92 : (s_91 35 29).toInt = ((s_86 35 29) + (1 : Int32)).toInt := congrArg Int32.toInt (show s_91 35 29 = ((s_86 35 29) + (1 : Int32)) from (by rw [es_90]; exact up2_s))
                  have rd_93 : (s_91 35 33).toInt = ((s5 35 33) - (s5 35 32)).toInt := congrArg Int32.toInt (Eq.trans (show s_91 35 33 = s_86 35 33 from (by rw [es_90]; exact up2_n (by omega))) (Eq.trans (show s_86 35 33 = s_83 35 33 from (by rw [es_87]; exact up2_o (by omega))) (show s_83 35 33 = ((s5 35 33) - (s5 35 32)) from (by rw [es_82]; exact up2_s))))
                  exact reti hC hK hR hS (by first | exact Or.inl (⟨by subst es_90; subst es_87; subst es_82; (first | rfl | omega), by exact (by rw [es_90]; exact MRel.upm ((by rw [es_87]; exact MRel.up ((by rw [es_82]; exact MRel.upm (hi4_109) (by first | omega | (dsimp only; omega)))) (by omega) (by first | omega | (dsimp only; omega)))) (by first | omega | (dsimp only; omega))), by subst es_90; subst es_87; subst es_82; (first | omega | assumption), by subst es_90; subst es_87; subst es_82; (rfl)⟩) | exact Or.inr ((⟨by exact (by rw [es_90]; exact MRel.upm ((by rw [es_87]; exact MRel.up ((by rw [es_82]; exact MRel.upm (hi4_109) (by first | omega | (dsimp only; omega)))) (by omega) (by first | omega | (dsimp only; omega)))) (by first | omega | (dsimp only; omega))), by subst es_90; subst es_87; subst es_82; (first | omega | assumption), by exact (by rw [es_90]; exact KM.u35 (by rw [es_87]; exact KM.up (by rw [es_82]; exact KM.u35 hi0_109 (by omega)) (by omega)) (by omega)), by first | omega | (dsimp only; omega), by first | omega | (dsimp only; omega), by assumption, by (try dsimp only); exact zc_mk hi3_109 es_82 es_87 es_90 hi1_109.1⟩)) | exact False.elim (by omega)) dX10_close_192
                · skip
                  refine lv_iload_n hC.x hC.b dX10_close_158 rfl (lv_at hl 0 rfl) ?_
                  refine lv_ineg hC.x hC.b dX10_close_159 ?_
                  have pr_94 : (-(s5 35 32)).toInt = (-((s5 35 32).toInt)) := negI rfl (by omega)
                  refine lv_goto (tgt := 164) hC.x hC.b dX10_close_160 (by decide) ?_
                  refine lv_isub hC.x hC.b dX10_close_164 ?_
                  have pr_95 : ((s5 35 33) - (-(s5 35 32))).toInt = ((s5 35 33).toInt - (-((s5 35 32).toInt))) := subI rfl pr_94 (by omega) (by omega)
                  refine rputi hC hK hG hR hS (ct_model G _ _) rfl uin_X10 tyX10 tyX10_ok nmX10 33 (by decide) TF_X10_235 rfl (Or.inl rfl) (Nat.le_of_ble_eq_true rfl) rfl (ct_model G _ _) dX10_close_165 (fun s_97 es_96 H locs hR hS => ?_)
                  refine lv_aload_n hC.x hC.b dX10_close_168 rfl (lv_at hl 1 rfl) ?_
                  refine rget hC hK hR (ct_model G _ _) rfl uin_X10 26 (by decide) TF_X10_89 rfl dX10_close_169 ?_
                  refine lv_aload_n hC.x hC.b dX10_close_172 rfl (lv_at hl 1 rfl) ?_
                  refine rget hC hK hR (ct_model G _ _) rfl uin_X10 29 (by decide) TF_X10_137 rfl dX10_close_173 ?_
                  have rd_98 : (s_97 35 29).toInt = (s5 35 29).toInt := congrArg Int32.toInt (show s_97 35 29 = s5 35 29 from (by rw [es_96]; exact up2_n (by omega)))
                  rw [show s_97 35 29 = (s5 35 29) from (show s_97 35 29 = s5 35 29 from (by rw [es_96]; exact up2_n (by omega)))]
                  refine lv_aload_n hC.x hC.b dX10_close_176 rfl (lv_at hl 1 rfl) ?_
                  refine rget hC hK hR (ct_model G _ _) rfl uin_X10 33 (by decide) TF_X10_235 rfl dX10_close_177 ?_
                  have rd_99 : (s_97 35 33).toInt = ((s5 35 33) - (-(s5 35 32))).toInt := congrArg Int32.toInt (show s_97 35 33 = ((s5 35 33) - (-(s5 35 32))) from (by rw [es_96]; exact up2_s))
                  refine ast hC hK hG hR hS (fun _ => ct_m_offs G _ _) rfl (by omega) (by omega) rfl dX10_close_180 (fun s_100 es_101 H locs hR hS => ?_)
                  refine lv_aload_n hC.x hC.b dX10_close_181 rfl (lv_at hl 1 rfl) ?_
                  refine lv_dup hC.x hC.b dX10_close_182 rfl ?_
                  refine rget hC hK hR (ct_model G _ _) rfl uin_X10 29 (by decide) TF_X10_137 rfl dX10_close_183 ?_
                  have rd_102 : (s_100 35 29).toInt = (s5 35 29).toInt := congrArg Int32.toInt (Eq.trans (show s_100 35 29 = s_97 35 29 from (by rw [es_101]; exact up2_o (by omega))) (show s_97 35 29 = s5 35 29 from (by rw [es_96]; exact up2_n (by omega))))
                  refine lv_iconst (v := 1) hC.x hC.b dX10_close_186 (by decide) ?_
                  refine lv_iadd hC.x hC.b dX10_close_187 ?_
                  have pr_103 : ((s_100 35 29) + (1 : Int32)).toInt = ((s_100 35 29).toInt + 1) := addI rfl rfl (by omega) (by omega)
                  refine rputi hC hK hG hR hS (ct_model G _ _) rfl uin_X10 tyX10 tyX10_ok nmX10 29 (by decide) TF_X10_137 rfl (Or.inl rfl) (Nat.le_of_ble_eq_true rfl) rfl (ct_model G _ _) dX10_close_188 (fun s_105 es_104 H locs hR hS => ?_)
                  refine lv_iload_n hC.x hC.b dX10_close_191 rfl (lv_at hl 2 rfl) ?_
                  have rd_106 : (s_105 35 29).toInt = ((s_100 35 29) + (1 : Int32)).toInt := congrArg Int32.toInt (show s_105 35 29 = ((s_100 35 29) + (1 : Int32)) from (by rw [es_104]; exact up2_s))
                  have rd_107 : (s_105 35 33).toInt = ((s5 35 33) - (-(s5 35 32))).toInt := congrArg Int32.toInt (Eq.trans (show s_105 35 33 = s_100 35 33 from (by rw [es_104]; exact up2_n (by omega))) (Eq.trans (show s_100 35 33 = s_97 35 33 from (by rw [es_101]; exact up2_o (by omega))) (show s_97 35 33 = ((s5 35 33) - (-(s5 35 32))) from (by rw [es_96]; exact up2_s))))
                  exact reti hC hK hR hS (by first | exact Or.inl (⟨by subst es_104; subst es_101; subst es_96; (first | rfl | omega), by exact (by rw [es_104]; exact MRel.upm ((by rw [es_101]; exact MRel.up ((by rw [es_96]; exact MRel.upm (hi4_109) (by first | omega | (dsimp only; omega)))) (by omega) (by first | omega | (dsimp only; omega)))) (by first | omega | (dsimp only; omega))), by subst es_104; subst es_101; subst es_96; (first | omega | assumption), by subst es_104; subst es_101; subst es_96; (rfl)⟩) | exact Or.inr ((⟨by exact (by rw [es_104]; exact MRel.upm ((by rw [es_101]; exact MRel.up ((by rw [es_96]; exact MRel.upm (hi4_109) (by first | omega | (dsimp only; omega)))) (by omega) (by first | omega | (dsimp only; omega)))) (by first | omega | (dsimp only; omega))), by subst es_104; subst es_101; subst es_96; (first | omega | assumption), by exact (by rw [es_104]; exact KM.u35 (by rw [es_101]; exact KM.up (by rw [es_96]; exact KM.u35 hi0_109 (by omega)) (by omega)) (by omega)), by first | omega | (dsimp only; omega), by first | omega | (dsimp only; omega), by assumption, by (try dsimp only); exact zc_mk hi3_109 es_96 es_101 es_104 hi1_109.1⟩)) | exact False.elim (by omega)) dX10_close_192
              · skip
                refine lv_iload_n hC.x hC.b dX10_close_137 rfl (lv_at hl 0 rfl) ?_
                refine lv_goto (tgt := 145) hC.x hC.b dX10_close_138 (by decide) ?_
                refine lv_istore_n (lv' := [(3, .int (-(s5 35 33))), (0, .ref (G.2.1 35)), (2, .int x2)]) hC.x hC.b dX10_close_145 rfl hl (by decide) rfl (fun ls hl => ?_)
                refine lv_aload_n hC.x hC.b dX10_close_146 rfl (lv_at hl 1 rfl) ?_
                refine lv_dup hC.x hC.b dX10_close_147 rfl ?_
                refine rget hC hK hR (ct_model G _ _) rfl uin_X10 33 (by decide) TF_X10_235 rfl dX10_close_148 ?_
                refine lv_aload_n hC.x hC.b dX10_close_151 rfl (lv_at hl 1 rfl) ?_
                refine rget hC hK hR (ct_model G _ _) rfl uin_X10 33 (by decide) TF_X10_235 rfl dX10_close_152 ?_
                refine bz_ge (tgt := 163) (a := (s5 35 33).toInt) (b := 0) hC.x hC.b rfl rfl dX10_close_155 (by decide) (fun c_108 => ?_) (fun c_108 => ?_)
                · skip
                  refine lv_iload_n hC.x hC.b dX10_close_163 rfl (lv_at hl 0 rfl) ?_
                  refine lv_isub hC.x hC.b dX10_close_164 ?_
                  have pr_109 : ((s5 35 33) - (-(s5 35 33))).toInt = ((s5 35 33).toInt - (-((s5 35 33).toInt))) := subI rfl pr_76 (by omega) (by omega)
                  refine rputi hC hK hG hR hS (ct_model G _ _) rfl uin_X10 tyX10 tyX10_ok nmX10 33 (by decide) TF_X10_235 rfl (Or.inl rfl) (Nat.le_of_ble_eq_true rfl) rfl (ct_model G _ _) dX10_close_165 (fun s_111 es_110 H locs hR hS => ?_)
                  refine lv_aload_n hC.x hC.b dX10_close_168 rfl (lv_at hl 1 rfl) ?_
                  refine rget hC hK hR (ct_model G _ _) rfl uin_X10 26 (by decide) TF_X10_89 rfl dX10_close_169 ?_
                  refine lv_aload_n hC.x hC.b dX10_close_172 rfl (lv_at hl 1 rfl) ?_
                  refine rget hC hK hR (ct_model G _ _) rfl uin_X10 29 (by decide) TF_X10_137 rfl dX10_close_173 ?_
                  have rd_112 : (s_111 35 29).toInt = (s5 35 29).toInt := congrArg Int32.toInt (show s_111 35 29 = s5 35 29 from (by rw [es_110]; exact up2_n (by omega)))
                  rw [show s_111 35 29 = (s5 35 29) from (show s_111 35 29 = s5 35 29 from (by rw [es_110]; exact up2_n (by omega)))]
                  refine lv_aload_n hC.x hC.b dX10_close_176 rfl (lv_at hl 1 rfl) ?_
                  refine rget hC hK hR (ct_model G _ _) rfl uin_X10 33 (by decide) TF_X10_235 rfl dX10_close_177 ?_
                  have rd_113 : (s_111 35 33).toInt = ((s5 35 33) - (-(s5 35 33))).toInt := congrArg Int32.toInt (show s_111 35 33 = ((s5 35 33) - (-(s5 35 33))) from (by rw [es_110]; exact up2_s))
                  refine ast hC hK hG hR hS (fun _ => ct_m_offs G _ _) rfl (by omega) (by omega) rfl dX10_close_180 (fun s_114 es_115 H locs hR hS => ?_)
                  refine lv_aload_n hC.x hC.b dX10_close_181 rfl (lv_at hl 1 rfl) ?_
                  refine lv_dup hC.x hC.b dX10_close_182 rfl ?_
                  refine rget hC hK hR (ct_model G _ _) rfl uin_X10 29 (by decide) TF_X10_137 rfl dX10_close_183 ?_
                  have rd_116 : (s_114 35 29).toInt = (s5 35 29).toInt := congrArg Int32.toInt (Eq.trans (show s_114 35 29 = s_111 35 29 from (by rw [es_115]; exact up2_o (by omega))) (show s_111 35 29 = s5 35 29 from (by rw [es_110]; exact up2_n (by omega))))
                  refine lv_iconst (v := 1) hC.x hC.b dX10_close_186 (by decide) ?_
                  refine lv_iadd hC.x hC.b dX10_close_187 ?_
                  have pr_117 : ((s_114 35 29) + (1 : Int32)).toInt = ((s_114 35 29).toInt + 1) := addI rfl rfl (by omega) (by omega)
                  refine rputi hC hK hG hR hS (ct_model G _ _) rfl uin_X10 tyX10 tyX10_ok nmX10 29 (by decide) TF_X10_137 rfl (Or.inl rfl) (Nat.le_of_ble_eq_true rfl) rfl (ct_model G _ _) dX10_close_188 (fun s_119 es_118 H locs hR hS => ?_)
                  refine lv_iload_n hC.x hC.b dX10_close_191 rfl (lv_at hl 2 rfl) ?_
                  have rd_120 : (s_119 35 29).toInt = ((s_114 35 29) + (1 : Int32)).toInt := congrArg Int32.toInt (show s_119 35 29 = ((s_114 35 29) + (1 : Int32)) from (by rw [es_118]; exact up2_s))
                  have rd_121 : (s_119 35 33).toInt = ((s5 35 33) - (-(s5 35 33))).toInt := congrArg Int32.toInt (Eq.trans (show s_119 35 33 = s_114 35 33 from (by rw [es_118]; exact up2_n (by omega))) (Eq.trans (show s_114 35 33 = s_111 35 33 from (by rw [es_115]; exact up2_o (by omega))) (show s_111 35 33 = ((s5 35 33) - (-(s5 35 33))) from (by rw [es_110]; exact up2_s))))
                  exact reti hC hK hR hS (by first | exact Or.inl (⟨by subst es_118; subst es_115; subst es_110; (first | rfl | omega), by exact (by rw [es_118]; exact MRel.upm ((by rw [es_115]; exact MRel.up ((by rw [es_110]; exact MRel.upm (hi4_109) (by first | omega | (dsimp only; omega)))) (by omega) (by first | omega | (dsimp only; omega)))) (by first | omega | (dsimp only; omega))), by subst es_118; subst es_115; subst es_110; (first | omega | assumption), by subst es_118; subst es_115; subst es_110; (rfl)⟩) | exact Or.inr ((⟨by exact (by rw [es_118]; exact MRel.upm ((by rw [es_115]; exact MRel.up ((by rw [es_110]; exact MRel.upm (hi4_109) (by first | omega | (dsimp only; omega)))) (by omega) (by first | omega | (dsimp only; omega)))) (by first | omega | (dsimp only; omega))), by subst es_118; subst es_115; subst es_110; (first | omega | assumption), by exact (by rw [es_118]; exact KM.u35 (by rw [es_115]; exact KM.up (by rw [es_110]; exact KM.u35 hi0_109 (by omega)) (by omega)) (by omega)), by first | omega | (dsimp only; omega), by first | omega | (dsimp only; omega), by assumption, by (try dsimp only); exact zc_mk hi3_109 es_110 es_115 es_118 hi1_109.1⟩)) | exact False.elim (by omega)) dX10_close_192
                · skip
                  refine lv_iload_n hC.x hC.b dX10_close_158 rfl (lv_at hl 0 rfl) ?_
                  refine lv_ineg hC.x hC.b dX10_close_159 ?_
                  have pr_122 : (-(-(s5 35 33))).toInt = (-(-((s5 35 33).toInt))) := negI pr_76 (by omega)
                  refine lv_goto (tgt := 164) hC.x hC.b dX10_close_160 (by decide) ?_
                  refine lv_isub hC.x hC.b dX10_close_164 ?_
                  have pr_123 : ((s5 35 33) - (-(-(s5 35 33)))).toInt = ((s5 35 33).toInt - (-(-((s5 35 33).toInt)))) := subI rfl pr_122 (by omega) (by omega)
                  refine rputi hC hK hG hR hS (ct_model G _ _) rfl uin_X10 tyX10 tyX10_ok nmX10 33 (by decide) TF_X10_235 rfl (Or.inl rfl) (Nat.le_of_ble_eq_true rfl) rfl (ct_model G _ _) dX10_close_165 (fun s_125 es_124 H locs hR hS => ?_)
                  refine lv_aload_n hC.x hC.b dX10_close_168 rfl (lv_at hl 1 rfl) ?_
                  refine rget hC hK hR (ct_model G _ _) rfl uin_X10 26 (by decide) TF_X10_89 rfl dX10_close_169 ?_
                  refine lv_aload_n hC.x hC.b dX10_close_172 rfl (lv_at hl 1 rfl) ?_
                  refine rget hC hK hR (ct_model G _ _) rfl uin_X10 29 (by decide) TF_X10_137 rfl dX10_close_173 ?_
                  have rd_126 : (s_125 35 29).toInt = (s5 35 29).toInt := congrArg Int32.toInt (show s_125 35 29 = s5 35 29 from (by rw [es_124]; exact up2_n (by omega)))
                  rw [show s_125 35 29 = (s5 35 29) from (show s_125 35 29 = s5 35 29 from (by rw [es_124]; exact up2_n (by omega)))]
                  refine lv_aload_n hC.x hC.b dX10_close_176 rfl (lv_at hl 1 rfl) ?_
                  refine rget hC hK hR (ct_model G _ _) rfl uin_X10 33 (by decide) TF_X10_235 rfl dX10_close_177 ?_
                  have rd_127 : (s_125 35 33).toInt = ((s5 35 33) - (-(-(s5 35 33)))).toInt := congrArg Int32.toInt (show s_125 35 33 = ((s5 35 33) - (-(-(s5 35 33)))) from (by rw [es_124]; exact up2_s))
                  refine ast hC hK hG hR hS (fun _ => ct_m_offs G _ _) rfl (by omega) (by omega) rfl dX10_close_180 (fun s_128 es_129 H locs hR hS => ?_)
                  refine lv_aload_n hC.x hC.b dX10_close_181 rfl (lv_at hl 1 rfl) ?_
                  refine lv_dup hC.x hC.b dX10_close_182 rfl ?_
                  refine rget hC hK hR (ct_model G _ _) rfl uin_X10 29 (by decide) TF_X10_137 rfl dX10_close_183 ?_
                  have rd_130 : (s_128 35 29).toInt = (s5 35 29).toInt := congrArg Int32.toInt (Eq.trans (show s_128 35 29 = s_125 35 29 from (by rw [es_129]; exact up2_o (by omega))) (show s_125 35 29 = s5 35 29 from (by rw [es_124]; exact up2_n (by omega))))
                  refine lv_iconst (v := 1) hC.x hC.b dX10_close_186 (by decide) ?_
                  refine lv_iadd hC.x hC.b dX10_close_187 ?_
                  have pr_131 : ((s_128 35 29) + (1 : Int32)).toInt = ((s_128 35 29).toInt + 1) := addI rfl rfl (by omega) (by omega)
                  refine rputi hC hK hG hR hS (ct_model G _ _) rfl uin_X10 tyX10 tyX10_ok nmX10 29 (by decide) TF_X10_137 rfl (Or.inl rfl) (Nat.le_of_ble_eq_true rfl) rfl (ct_model G _ _) dX10_close_188 (fun s_133 es_132 H locs hR hS => ?_)
                  refine lv_iload_n hC.x hC.b dX10_close_191 rfl (lv_at hl 2 rfl) ?_
                  have rd_134 : (s_133 35 29).toInt = ((s_128 35 29) + (1 : Int32)).toInt := congrArg Int32.toInt (show s_133 35 29 = ((s_128 35 29) + (1 : Int32)) from (by rw [es_132]; exact up2_s))
                  have rd_135 : (s_133 35 33).toInt = ((s5 35 33) - (-(-(s5 35 33)))).toInt := congrArg Int32.toInt (Eq.trans (show s_133 35 33 = s_128 35 33 from (by rw [es_132]; exact up2_n (by omega))) (Eq.trans (show s_128 35 33 = s_125 35 33 from (by rw [es_129]; exact up2_o (by omega))) (show s_125 35 33 = ((s5 35 33) - (-(-(s5 35 33)))) from (by rw [es_124]; exact up2_s))))
                  exact reti hC hK hR hS (by first | exact Or.inl (⟨by subst es_132; subst es_129; subst es_124; (first | rfl | omega), by exact (by rw [es_132]; exact MRel.upm ((by rw [es_129]; exact MRel.up ((by rw [es_124]; exact MRel.upm (hi4_109) (by first | omega | (dsimp only; omega)))) (by omega) (by first | omega | (dsimp only; omega)))) (by first | omega | (dsimp only; omega))), by subst es_132; subst es_129; subst es_124; (first | omega | assumption), by subst es_132; subst es_129; subst es_124; (rfl)⟩) | exact Or.inr ((⟨by exact (by rw [es_132]; exact MRel.upm ((by rw [es_129]; exact MRel.up ((by rw [es_124]; exact MRel.upm (hi4_109) (by first | omega | (dsimp only; omega)))) (by omega) (by first | omega | (dsimp only; omega)))) (by first | omega | (dsimp only; omega))), by subst es_132; subst es_129; subst es_124; (first | omega | assumption), by exact (by rw [es_132]; exact KM.u35 (by rw [es_129]; exact KM.up (by rw [es_124]; exact KM.u35 hi0_109 (by omega)) (by omega)) (by omega)), by first | omega | (dsimp only; omega), by first | omega | (dsimp only; omega), by assumption, by (try dsimp only); exact zc_mk hi3_109 es_124 es_129 es_132 hi1_109.1⟩)) | exact False.elim (by omega)) dX10_close_192
          have e4z : s_14 = up2 (up2 (up2 s1 59 (σ 35 29).toInt.toNat v_3) 60 (σ 35 29).toInt.toNat 0) 63 (σ 35 29).toInt.toNat (σ 35 30) := by rw [es_15, es_11, es_8, e29z]
          have hMZ : MZ6 σ s1 24 := (show n = 24 by omega) ▸ hi3_14
          have hzf := z4_fr hMZ e4z
          refine lv_iload_n hC.x hC.b dX10_close_94 rfl (lv_at hl 0 rfl) ?_
          refine lv_iconst (v := (-1)) hC.x hC.b dX10_close_95 (by decide) ?_
          refine bi_ne (tgt := 103) (a := v_3.toInt) (b := (-1)) hC.x hC.b rfl rfl dX10_close_96 (by decide) (fun c_136 => ?_) (fun c_136 => ?_)
          · skip
            refine lv_aload_n hC.x hC.b dX10_close_103 rfl (lv_at hl 1 rfl) ?_
            refine lv_iload_n hC.x hC.b dX10_close_104 rfl (lv_at hl 0 rfl) ?_
            have rd_137 : (s_14 35 29).toInt = (s1 35 29).toInt := congrArg Int32.toInt (Eq.trans (show s_14 35 29 = s_10 35 29 from (by rw [es_15]; exact up2_o (by omega))) (Eq.trans (show s_10 35 29 = s_7 35 29 from (by rw [es_11]; exact up2_o (by omega))) (show s_7 35 29 = s1 35 29 from (by rw [es_8]; exact up2_o (by omega)))))
            refine goi (runV (As := [.int v_3]) (rest := []) hC hK hR hl.1 (c7_X10_closes l hG s_14 τ v_3 v_3.toInt.toNat rfl (by first | assumption | omega) (by omega) (by exact LnM.fr (S := (fun k => (41 ≤ k ∧ k ≤ 46 ∧ k ≠ 42 ∧ k ≠ 43) ∨ (52 ≤ k ∧ k ≤ 69) ∨ k = 71)) (J := (fun j => j = 29 ∨ j = 33 ∨ j = 37 ∨ j = 41 ∨ j = 43 ∨ j = 44)) (σ1 := s_14) hln (by rw [es_15]; exact MRel.up ((by rw [es_11]; exact MRel.up ((by rw [es_8]; exact MRel.up (hi4_14) (by omega) (by first | omega | (dsimp only; omega)))) (by omega) (by first | omega | (dsimp only; omega)))) (by omega) (by first | omega | (dsimp only; omega))) (by first | omega | (dsimp only; omega)) (by first | omega | (dsimp only; omega)) (by first | omega | (dsimp only; omega))) (by exact ClM.fr (S := (fun k => (41 ≤ k ∧ k ≤ 46 ∧ k ≠ 42 ∧ k ≠ 43) ∨ (52 ≤ k ∧ k ≤ 69) ∨ k = 71)) (J := (fun j => j = 29 ∨ j = 33 ∨ j = 37 ∨ j = 41 ∨ j = 43 ∨ j = 44)) (σ1 := s_14) hcl (by rw [es_15]; exact MRel.up ((by rw [es_11]; exact MRel.up ((by rw [es_8]; exact MRel.up (hi4_14) (by omega) (by first | omega | (dsimp only; omega)))) (by omega) (by first | omega | (dsimp only; omega)))) (by omega) (by first | omega | (dsimp only; omega))) (by first | omega | (dsimp only; omega)) (by first | omega | (dsimp only; omega))) (by exact (by rw [es_15]; exact KM.up (by rw [es_11]; exact KM.up (by rw [es_8]; exact KM.up hi0_14 (by omega)) (by omega)) (by omega))) (by exact XB.ex hxb (hzf.1 54 (by decide) (by decide) (by decide) (by decide) (by decide))) (by exact Cl6.ex hc6 (hzf.1 36 (by decide) (by decide) (by decide) (by decide) (by decide)) (hzf.1 37 (by decide) (by decide) (by decide) (by decide) (by decide)) (hzf.1 38 (by decide) (by decide) (by decide) (by decide) (by decide))) (by exact SU6.z hsq hzf)) (call_b hC.ts TC_X10_closes TN_X10 TM_X10_232 hd_X10_closes ⟨Nat.le_of_ble_eq_true rfl, Nat.le_of_ble_eq_true rfl⟩) TI_X10_closes TS_X10_closes (ct_model G _ _) rfl rfl rfl (Nat.le_of_ble_eq_true rfl) dX10_close_105 ⟨Nat.le_of_ble_eq_true rfl, Nat.le_of_ble_eq_true rfl⟩) hS (fun v_138 s_140 t_141 H locs w_139 hR hS => ?_)
            try dsimp only [po7_X10_closes] at w_139
            obtain ⟨f_142, f_143, f_144, f_145⟩ := w_139
            refine lv_istore_n (lv' := [(2, .int v_138), (1, .int v_3), (0, .ref (G.2.1 35))]) hC.x hC.b dX10_close_108 rfl hl (by decide) rfl (fun ls hl => ?_)
            have rd_146 : (s_140 35 29).toInt = (s1 35 29).toInt := congrArg Int32.toInt (Eq.trans (show s_140 35 29 = s_14 35 29 from f_142.2 29 (by first | omega | (dsimp only; omega))) (Eq.trans (show s_14 35 29 = s_10 35 29 from (by rw [es_15]; exact up2_o (by omega))) (Eq.trans (show s_10 35 29 = s_7 35 29 from (by rw [es_11]; exact up2_o (by omega))) (show s_7 35 29 = s1 35 29 from (by rw [es_8]; exact up2_o (by omega))))))
            have rd_147 : (s_140 35 33).toInt = (s1 35 33).toInt := congrArg Int32.toInt (Eq.trans (show s_140 35 33 = s_14 35 33 from f_142.2 33 (by first | omega | (dsimp only; omega))) (Eq.trans (show s_14 35 33 = s_10 35 33 from (by rw [es_15]; exact up2_o (by omega))) (Eq.trans (show s_10 35 33 = s_7 35 33 from (by rw [es_11]; exact up2_o (by omega))) (show s_7 35 33 = s1 35 33 from (by rw [es_8]; exact up2_o (by omega))))))
            exact L_109 v_138 s_140 t_141 (by exact f_143) (by omega) (by exact CMV.r (K6.mr (σ := σ) (s := s1) hi4_14 (by intro k h1 h2; first | omega | (dsimp only at h2; omega)) (by omega)) (K6.mr (S := (fun k => (41 ≤ k ∧ k ≤ 46 ∧ k ≠ 42 ∧ k ≠ 43) ∨ (52 ≤ k ∧ k ≤ 69) ∨ k = 71)) (J := (fun j => j = 29 ∨ j = 33 ∨ j = 37 ∨ j = 41 ∨ j = 43 ∨ j = 44)) (σ := σ) (s := s_14) (by rw [es_15]; exact MRel.up ((by rw [es_11]; exact MRel.up ((by rw [es_8]; exact MRel.up (hi4_14) (by omega) (by first | omega | (dsimp only; omega)))) (by omega) (by first | omega | (dsimp only; omega)))) (by omega) (by first | omega | (dsimp only; omega))) (by intro k h1 h2; first | omega | (dsimp only at h2; omega)) (by omega)) (by assumption) (by omega) (by assumption)) (by exact ⟨s1, _, _, hMZ, by assumption, e4z, Or.inr ⟨by omega, f_145⟩⟩) (MRel.tr (by rw [es_15]; exact MRel.up ((by rw [es_11]; exact MRel.up ((by rw [es_8]; exact MRel.up (hi4_14) (by omega) (by first | omega | (dsimp only; omega)))) (by omega) (by first | omega | (dsimp only; omega)))) (by omega) (by first | omega | (dsimp only; omega))) (MRel.mo f_142 (by intro k q; first | omega | (dsimp only at q ⊢; omega) | exact q.elim) (by intro j q; first | omega | (dsimp only at q ⊢; omega) | exact q.elim))) _ _ _ hR hS (lv_sub hl [2, 0] rfl)
          · skip
            refine lv_iconst (v := 0) hC.x hC.b dX10_close_99 (by decide) ?_
            refine lv_goto (tgt := 108) hC.x hC.b dX10_close_100 (by decide) ?_
            refine lv_istore_n (lv' := [(2, .int (0 : Int32)), (1, .int v_3), (0, .ref (G.2.1 35))]) hC.x hC.b dX10_close_108 rfl hl (by decide) rfl (fun ls hl => ?_)
            have rd_148 : (s_14 35 29).toInt = (s1 35 29).toInt := congrArg Int32.toInt (Eq.trans (show s_14 35 29 = s_10 35 29 from (by rw [es_15]; exact up2_o (by omega))) (Eq.trans (show s_10 35 29 = s_7 35 29 from (by rw [es_11]; exact up2_o (by omega))) (show s_7 35 29 = s1 35 29 from (by rw [es_8]; exact up2_o (by omega)))))
            have rd_149 : (s_14 35 33).toInt = (s1 35 33).toInt := congrArg Int32.toInt (Eq.trans (show s_14 35 33 = s_10 35 33 from (by rw [es_15]; exact up2_o (by omega))) (Eq.trans (show s_10 35 33 = s_7 35 33 from (by rw [es_11]; exact up2_o (by omega))) (show s_7 35 33 = s1 35 33 from (by rw [es_8]; exact up2_o (by omega)))))
            exact L_109 (0 : Int32) s_14 τ (by exact (by rw [es_15]; exact KM.up (by rw [es_11]; exact KM.up (by rw [es_8]; exact KM.up hi0_14 (by omega)) (by omega)) (by omega))) (by omega) (by exact CMV.z (K6.mr (σ := σ) (s := s1) hi4_14 (by intro k h1 h2; first | omega | (dsimp only at h2; omega)) (by omega)) (by assumption) (by omega)) (by exact ⟨s1, _, _, hMZ, by assumption, e4z, Or.inl ⟨by omega, rfl, rfl⟩⟩) (by rw [es_15]; exact MRel.up ((by rw [es_11]; exact MRel.up ((by rw [es_8]; exact MRel.up (hi4_14) (by omega) (by first | omega | (dsimp only; omega)))) (by omega) (by first | omega | (dsimp only; omega)))) (by omega) (by first | omega | (dsimp only; omega))) _ _ _ hR hS (lv_sub hl [2, 0] rfl)
        · skip
          refine lv_aload_n hC.x hC.b dX10_close_20 rfl (lv_at hl 0 rfl) ?_
          refine rget hC hK hR (ct_model G _ _) rfl uin_X10 16 (by decide) TF_X10_59 rfl dX10_close_21 ?_
          refine lv_aload_n hC.x hC.b dX10_close_24 rfl (lv_at hl 0 rfl) ?_
          refine lv_aload_n hC.x hC.b dX10_close_25 rfl (lv_at hl 0 rfl) ?_
          refine rget hC hK hR (ct_model G _ _) rfl uin_X10 29 (by decide) TF_X10_137 rfl dX10_close_26 ?_
          refine lv_iload_n hC.x hC.b dX10_close_29 rfl (lv_at hl 1 rfl) ?_
          have av_150 : (nI n).toInt = (n : Int) := (nI_T n (by omega))
          refine goip (runV (As := [.int (s1 35 29), .int (nI n)]) (rest := [.ref (G.2.1 52)]) hC hK hR hl.1 (c_X10_at l hG s1 τ (s1 35 29) (((s1 35 29).toInt).toNat) (by first | rfl | (rw [show (s1 35 29).toInt = (s1 35 29).toInt from rfl]; done) | (rw [show (s1 35 29).toInt = (s1 35 29).toInt from rfl]; exact rfl)) (nI n) n (by first | rfl | (rw [show (nI n).toInt = (n : Int) from (nI_T n (by omega))]; done) | (rw [show (nI n).toInt = (n : Int) from (nI_T n (by omega))]; exact (Int.toNat_natCast _))) (by omega) (by omega)) (call_b hC.ts TC_X10_at TN_X10 TM_X10_140 hd_X10_at ⟨Nat.le_of_ble_eq_true rfl, Nat.le_of_ble_eq_true rfl⟩) TI_X10_at TS_X10_at (ct_model G _ _) rfl rfl rfl (Nat.le_of_ble_eq_true rfl) dX10_close_30 ⟨Nat.le_of_ble_eq_true rfl, Nat.le_of_ble_eq_true rfl⟩) hS (fun v_151 H locs w_152 hR hS => ?_)
          subst w_152
          refine lv_iconst (v := 0) hC.x hC.b dX10_close_33 (by decide) ?_
          refine zast hC hK hG hR hS (fun _ => ct_m_hasX G _ _) (nI_T _ (by omega)) (by omega) (by omega) (Int.toNat_natCast _) (Or.inl rfl) dX10_close_34 (fun s_153 es_154 H locs hR hS => ?_)
          refine lv_aload_n hC.x hC.b dX10_close_35 rfl (lv_at hl 0 rfl) ?_
          refine rget hC hK hR (ct_model G _ _) rfl uin_X10 17 (by decide) TF_X10_62 rfl dX10_close_36 ?_
          refine lv_aload_n hC.x hC.b dX10_close_39 rfl (lv_at hl 0 rfl) ?_
          refine lv_aload_n hC.x hC.b dX10_close_40 rfl (lv_at hl 0 rfl) ?_
          refine rget hC hK hR (ct_model G _ _) rfl uin_X10 29 (by decide) TF_X10_137 rfl dX10_close_41 ?_
          have rd_155 : (s_153 35 29).toInt = (s1 35 29).toInt := congrArg Int32.toInt (show s_153 35 29 = s1 35 29 from (by rw [es_154]; exact up2_o (by omega)))
          refine lv_iload_n hC.x hC.b dX10_close_44 rfl (lv_at hl 1 rfl) ?_
          have av_156 : (nI n).toInt = (n : Int) := (nI_T n (by omega))
          refine goip (runV (As := [.int (s_153 35 29), .int (nI n)]) (rest := [.ref (G.2.1 53)]) hC hK hR hl.1 (c_X10_at l hG s_153 τ (s_153 35 29) (((s_153 35 29).toInt).toNat) (by first | rfl | (rw [show (s_153 35 29).toInt = (s_153 35 29).toInt from rfl]; done) | (rw [show (s_153 35 29).toInt = (s_153 35 29).toInt from rfl]; exact rfl)) (nI n) n (by first | rfl | (rw [show (nI n).toInt = (n : Int) from (nI_T n (by omega))]; done) | (rw [show (nI n).toInt = (n : Int) from (nI_T n (by omega))]; exact (Int.toNat_natCast _))) (by omega) (by omega)) (call_b hC.ts TC_X10_at TN_X10 TM_X10_140 hd_X10_at ⟨Nat.le_of_ble_eq_true rfl, Nat.le_of_ble_eq_true rfl⟩) TI_X10_at TS_X10_at (ct_model G _ _) rfl rfl rfl (Nat.le_of_ble_eq_true rfl) dX10_close_45 ⟨Nat.le_of_ble_eq_true rfl, Nat.le_of_ble_eq_true rfl⟩) hS (fun v_157 H locs w_158 hR hS => ?_)
          subst w_158
          rw [show s_153 35 29 = (s1 35 29) from (show s_153 35 29 = s1 35 29 from (by rw [es_154]; exact up2_o (by omega)))]
          refine lv_iconst (v := 0) hC.x hC.b dX10_close_48 (by decide) ?_
          refine zast hC hK hG hR hS (fun _ => ct_m_hasF G _ _) (nI_T _ (by omega)) (by omega) (by omega) (Int.toNat_natCast _) (Or.inl rfl) dX10_close_49 (fun s_159 es_160 H locs hR hS => ?_)
          refine lv_iinc (v := nI (n + 1)) (lv' := [(1, .int (nI (n + 1))), (0, .ref (G.2.1 35))]) hC.x hC.b dX10_close_50 hl (k := 1) rfl (nI_succ _).symm (by decide) rfl (fun ls hl => ?_)
          refine lv_goto (tgt := 14) hC.x hC.b dX10_close_53 (by decide) ?_
          have rd_161 : (s_159 35 29).toInt = (s1 35 29).toInt := congrArg Int32.toInt (Eq.trans (show s_159 35 29 = s_153 35 29 from (by rw [es_160]; exact up2_o (by omega))) (show s_153 35 29 = s1 35 29 from (by rw [es_154]; exact up2_o (by omega))))
          have rd_162 : (s_159 35 33).toInt = (s1 35 33).toInt := congrArg Int32.toInt (Eq.trans (show s_159 35 33 = s_153 35 33 from (by rw [es_160]; exact up2_o (by omega))) (show s_153 35 33 = s1 35 33 from (by rw [es_154]; exact up2_o (by omega))))
          exact ih_14 (n + 1) s_159 (by omega) (by exact (by rw [es_160]; exact KM.up (by rw [es_154]; exact KM.up hi0_14 (by omega)) (by omega))) (by first | omega | assumption) (by omega) (by exact MZ6.go hi3_14 (by rw [e29z]) (by rw [e29z]) es_154 es_160) (by rw [es_160]; exact MRel.up ((by rw [es_154]; exact MRel.up (hi4_14) (by omega) (by first | omega | (dsimp only; omega)))) (by omega) (by first | omega | (dsimp only; omega))) _ _ _ hR hS (lv_sub hl [1, 0] rfl)
    exact L_14 _ 0 σ (Nat.lt_succ_self _) (by exact hkm) (by first | omega | assumption) (by exact ⟨rfl, rfl⟩) (by exact MZ6.st) MRel.rf _ _ _ hR hS (lv_sub hl [1, 0] rfl)
  · skip
    refine lv_iconst (v := (-1)) hC.x hC.b dX10_close_10 (by decide) ?_
    exact reti hC hK hR hS (by first | exact Or.inl (⟨by first | rfl | omega, by exact MRel.rf, by first | omega | assumption, by rfl⟩) | exact Or.inr ((⟨by exact MRel.rf, by first | omega | assumption, by exact hkm, by first | omega | (dsimp only; omega), by first | omega | (dsimp only; omega), by assumption, by exfalso; omega⟩)) | exact False.elim (by omega)) dX10_close_11
