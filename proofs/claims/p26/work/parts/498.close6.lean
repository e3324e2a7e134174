/-! ===== a closing keeps what both sides tell alike ===== -/
theorem unk_e {x : Int32} (h : UNK x) : x = 2000000000 := i32_ext (h.trans (by decide))
theorem xc_px {σ : SI} {q : Nat} (h : RT6 σ) (c : CK6 σ q) (hn : 0 ≤ (σ 35 29).toInt ∧ (σ 35 29).toInt ≤ 200) (hq : q < 24) : xC σ 24 q = pX σ q ∧ xC σ 26 q = pM σ q := by
  obtain ⟨a, b, -⟩ := h
  have e8 := c.2.2.1.1
  have key : ∀ t : Int, xC σ 24 q t = pX σ q t ∧ xC σ 26 q t = pM σ q t := fun t => by
    unfold xC rC pX pM
    rw [e8]
    by_cases z1 : t < (σ 43 q).toInt
    · rw [if_pos z1, if_pos z1, if_neg (by omega), if_neg (by omega)]
      exact ⟨rfl, rfl⟩
    · rw [if_neg z1, if_neg z1]
      by_cases z2 : t < 0 ∨ 200 ≤ t
      · rw [if_pos z2, if_pos z2, if_neg (by omega), if_neg (by omega)]
        exact ⟨rfl, rfl⟩
      · rw [if_neg z2, if_neg z2]
        by_cases z3 : t < (σ 35 29).toInt
        · rcases a (24 * t.toNat + q) (by omega) with ⟨a1, a2, a3⟩ | ⟨a1, a2, a3⟩
          · have y1 : (σ 43 q).toInt ≤ t ∧ 0 ≤ t ∧ t < (σ 35 29).toInt ∧ (σ 52 (24 * t.toNat + q)).toInt ≠ 0 := ⟨by omega, by omega, z3, a1⟩
            rw [if_pos y1]
            rcases a3 with ⟨a3, a4⟩ | ⟨a3, a4⟩
            · rw [if_pos ⟨y1, a3⟩]
              exact ⟨a2, a4⟩
            · rw [if_neg (fun w => w.2 a3)]
              exact ⟨a2, unk_e a4⟩
          · rw [if_neg (fun w => w.2.2.2 a1), if_neg (fun w => w.1.2.2.2 a1)]
            exact ⟨unk_e a2, unk_e a3⟩
        · have w := b (24 * t.toNat + q) (by omega) (by omega)
          rw [if_neg (by omega), if_neg (by omega)]
          exact ⟨unk_e w.1, unk_e w.2.2.1⟩
  exact ⟨funext fun t => (key t).1, funext fun t => (key t).2⟩
theorem kq_of {σ : SI} {q : Nat} (h : RT6 σ) (hk : KM σ) (c : CK6 σ q) (hn : 0 ≤ (σ 35 29).toInt ∧ (σ 35 29).toInt ≤ 200) (hq : q < 24) : KQ6 σ q (σ 35 29) := by
  obtain ⟨e1, e2⟩ := xc_px h c hn hq
  obtain ⟨⟨a1, a2, a3⟩, ⟨b1, b2, b3⟩, ⟨d1, d2, d3⟩, -⟩ := c
  unfold KQ6
  rw [a1, b1, d1, e1, e2]
  exact ⟨⟨a2, a3⟩, ⟨b2, b3⟩, ⟨d2, d3⟩, pX_R h.2.2.2.2.2, pM_R hk⟩
theorem hk6_of {σ : SI} (h : Inv6 σ) : HK6 σ (σ 0 8) := by
  obtain ⟨⟨hM, -, hL⟩, hR, -, h6⟩ := h
  intro p hp hk
  rw [(hR p hp).1] at hk
  rw [hL.1]
  exact kq_of h6.1 hM.2.2.2.2.1 (h6.2.2.2 p hp hk) hM.1 hp
theorem cl6_of {σ : SI} (h : Rel6 σ) : Cl6 σ := fun j hj hk => ⟨(h.2.2.2 j hj hk).1.2, (h.2.2.2 j hj hk).2.1.2⟩
theorem su6_of {σ : SI} (h : Rel6 σ) : SU6 σ := fun q hq hk h0 => (h.2.2.2 q hq hk).2.2.2.2.2.2.2 h0
theorem pX_now {σ s : SI} {q : Nat} (hq : q < 24) (e43 : s 43 = σ 43) (e29 : s 35 29 = σ 35 29) (he : ∀ j, j < 24 * (σ 35 29).toInt.toNat → s 52 j = σ 52 j ∧ s 54 j = σ 54 j) : pX s q = pX σ q := by
  funext t
  have key : isXp s q t ↔ isXp σ q t := by
    unfold isXp
    rw [e43, e29]
    by_cases z : 0 ≤ t ∧ t < (σ 35 29).toInt
    · rw [(he (24 * t.toNat + q) (by omega)).1]
    · constructor <;> rintro ⟨a, b, c, d⟩ <;> exact absurd ⟨b, c⟩ z
  by_cases z : isXp σ q t
  · rw [pX_v z, pX_v (key.mpr z)]
    exact (he (24 * t.toNat + q) (by have := z.2.2.1; have := z.2.1; omega)).2
  · have a : pX σ q t = 2000000000 := if_neg z
    have b : pX s q t = 2000000000 := if_neg (fun h => z (key.mp h))
    rw [a, b]
theorem MG_c {f g : Int → Int32} {lo : Int} : ∀ n : Nat, (∀ t, t < lo + (n : Int) → f t = g t) → MG f lo n = MG g lo n
  | 0, _ => rfl
  | n + 1, h => by
    have e := h (lo + (n : Int)) (by omega)
    have i := MG_c (f := f) (g := g) (lo := lo) n (fun t ht => h t (by omega))
    show (if (f (lo + (n : Int))).toInt = 2000000000 then MG f lo n else ((MG f lo n).1 + 1, (MG f lo n).2.1 + (ab6 (f (lo + (n : Int)))).toInt64, (MG f lo n).2.2 + (f (lo + (n : Int))).toInt64 * (f (lo + (n : Int))).toInt64)) = _
    rw [e, i]
    rfl
theorem UM6_c {f g : Int → Int32} {rc h : Int} (e : ∀ t, t < h → f t = g t) (hr : 0 ≤ rc) : UM6 f rc h = UM6 g rc h := by
  have z : MGr6 f rc h = MGr6 g rc h := MG_c rc.toNat (fun t ht => e t (by omega))
  unfold UM6
  rw [z]
set_option maxHeartbeats 1000000 in
theorem JV6_ag {f g : Int → Int32} {rc : Int} {hr ti m : Int32} {q : Nat} {c7 c9 c10 c11 d7 d9 d10 d11 b7 b9 b10 b11 e7 e9 e10 e11 : Int32} {S S' T T' : St6} (hfg : ∀ t, t < hr.toInt → f t = g t) (hrc : 0 ≤ rc) (h0 : 0 ≤ hr.toInt) (a : JV6 f rc hr q ti m c7 c9 c10 c11 S d7 d9 d10 d11 S') (b : JV6 g rc hr q ti m b7 b9 b10 b11 T e7 e9 e10 e11 T')
    (i7 : c7 = b7) (i9 : R9 c9 b9) (i10 : c10 = b10) (i11 : c11 = b11) (iS : S = T) : d7 = e7 ∧ R9 d9 e9 ∧ d10 = e10 ∧ d11 = e11 ∧ S' = T' := by
  subst i7
  subst i10
  subst i11
  subst iS
  have f1 := hfg (hr.toInt - 1) (by omega)
  have f2 := hfg (hr.toInt - 2) (by omega)
  have f3 := hfg (hr.toInt - 3) (by omega)
  have dr : DR6 f hr.toInt m ↔ DR6 g hr.toInt m := by
    unfold DR6
    rw [f1, f2, f3]
  have lm : LM6 f rc hr.toInt ti m ↔ LM6 g rc hr.toInt ti m := by
    unfold LM6
    rw [UM6_c hfg hrc]
  have n9 : c9.toInt = hr.toInt - 1 ↔ b9.toInt = hr.toInt - 1 := by
    rcases i9 with e | ⟨e1, e2⟩
    · rw [e]
    · constructor <;> intro <;> omega
  obtain ⟨a1, a2⟩ := a
  obtain ⟨b1, b2⟩ := b
  have h11 : d11 = e11 := by
    rw [a1, b1]
    by_cases z : DR6 g hr.toInt m
    · rw [if_pos z, if_pos (dr.mpr z)]
    · rw [if_neg z, if_neg (fun w => z (dr.mp w))]
  have key : d7 = e7 ∧ R9 d9 e9 ∧ d10 = e10 ∧ S' = T' := by
    unfold JW6 at a2 b2
    rw [f1] at a2
    rcases a2 with ⟨p1, p2, p3, p4, p5, p6⟩ | ⟨p1, p2, p3, p4, p5, p6⟩ | ⟨p1, p2, p3, p4, p5, p6⟩ | ⟨p1, p2, p3, p4, p5, p6⟩ <;>
    rcases b2 with ⟨q1, q2, q3, q4, q5, q6⟩ | ⟨q1, q2, q3, q4, q5, q6⟩ | ⟨q1, q2, q3, q4, q5, q6⟩ | ⟨q1, q2, q3, q4, q5, q6⟩ <;>
    first
    | exact absurd (n9.mp p1) q1
    | exact absurd (n9.mpr q1) p1
    | exact absurd p2 q2
    | exact absurd q2 p2
    | exact absurd (lm.mp p2) q2
    | exact absurd (lm.mpr q2) p2
    | exact ⟨p3.trans q3.symm, by rw [p4, q4]; exact i9, p5.trans q5.symm, p6.trans q6.symm⟩
    | exact ⟨p3.trans q3.symm, Or.inl (p4.trans q4.symm), p5.trans q5.symm, p6.trans q6.symm⟩
  exact ⟨key.1, key.2.1, key.2.2.1, h11, key.2.2.2⟩
theorem JV6_9 {f : Int → Int32} {rc : Int} {hr ti m : Int32} {q : Nat} {c7 c9 c10 c11 d7 d9 d10 d11 : Int32} {S S' : St6} (a : JV6 f rc hr q ti m c7 c9 c10 c11 S d7 d9 d10 d11 S') : d9 = c9 ∨ d9 = hr := by
  rcases a.2 with h | h | h | h
  · exact Or.inl h.2.2.2.1
  · exact Or.inl h.2.2.2.1
  · exact Or.inr h.2.2.2.1
  · exact Or.inl h.2.2.2.1
/-! sums over the places -/
theorem sw_ag {f a w : Nat → Int32} : ∀ n, (∀ p, p < n → ((a p).toInt = 0 ∧ f p = 0) ∨ ((a p).toInt ≠ 0 ∧ f p = w p)) → SW6 f n = SWp a w n
  | 0, _ => rfl
  | n + 1, h => by
    have i := sw_ag n (fun p hp => h p (by omega))
    show SW6 f n + (f n).toInt64 = (if (a n).toInt = 0 then SWp a w n else SWp a w n + (w n).toInt64)
    rcases h n (by omega) with ⟨h1, h2⟩ | ⟨h1, h2⟩
    · rw [if_pos h1, h2, i, show (0 : Int32).toInt64 = 0 from by decide, Int64.add_zero]
    · rw [if_neg h1, h2, i]
/-- class and reference sum the same -/
abbrev SPl (a f w d f' w' d' : Nat → Int32) (p : Nat) : Prop :=
  ((a p).toInt = 0 ∧ UNK (f p)) ∨ ((a p).toInt ≠ 0 ∧ f p = f' p ∧ w p = w' p ∧ d p = d' p ∧ 0 ≤ (w p).toInt ∧ (UNK (f p) → (w p).toInt = 0))
theorem sa_ag {a f w d f' w' d' : Nat → Int32} : ∀ n, (∀ p, p < n → SPl a f w d f' w' d' p) → SA6 f w d n = SB6 a w' f' d' n
  | 0, _ => rfl
  | n + 1, h => by
    have i := sa_ag n (fun p hp => h p (by omega))
    show _ = (if (a n).toInt = 0 then SB6 a w' f' d' n else ((SB6 a w' f' d' n).1 + (w' n).toInt64, if 0 < (w' n).toInt then (SB6 a w' f' d' n).2 + (w' n).toInt64 * ((f' n).toInt64 + (d' n).toInt64) else (SB6 a w' f' d' n).2))
    rcases h n (by omega) with ⟨h1, h2⟩ | ⟨h1, h2, h3, h4, h5, h6⟩
    · rw [if_pos h1, SA6_n h2, i]
    · rw [if_neg h1, ← h2, ← h3, ← h4]
      by_cases z : UNK (f n)
      · have z0 : w n = 0 := i32_ext ((h6 z).trans (by decide))
        rw [SA6_n z, i, z0, if_neg (by decide), show (0 : Int32).toInt64 = 0 from by decide, Int64.add_zero]
      · rw [SA6_s z, i]
        by_cases y : 0 < (w n).toInt
        · rw [if_pos y]
        · have z0 : w n = 0 := i32_ext ((show (w n).toInt = 0 by omega).trans (by decide))
          rw [z0, if_neg (by decide), show (0 : Int32).toInt64 = 0 from by decide, Int64.zero_mul, Int64.add_zero, Int64.add_zero]
theorem sa_bd {f w d : Nat → Int32} : ∀ n, n ≤ 24 → (∀ p, p < n → UNK (f p) ∨ ((0 ≤ (w p).toInt ∧ (w p).toInt ≤ 1000000) ∧ (-1000000000 ≤ (f p).toInt ∧ (f p).toInt ≤ 1000000000) ∧ (-660000 ≤ (d p).toInt ∧ (d p).toInt ≤ 660000))) →
    (0 ≤ (SA6 f w d n).1.toInt ∧ (SA6 f w d n).1.toInt ≤ 1000000 * (n : Int)) ∧ (-1000660000 * (SA6 f w d n).1.toInt ≤ (SA6 f w d n).2.toInt ∧ (SA6 f w d n).2.toInt ≤ 1000660000 * (SA6 f w d n).1.toInt)
  | 0, _, _ => by
    have z1 : (SA6 f w d 0).1.toInt = 0 := by show (0 : Int64).toInt = 0; decide
    have z2 : (SA6 f w d 0).2.toInt = 0 := by show (0 : Int64).toInt = 0; decide
    rw [z1, z2]
    omega
  | n + 1, hn, h => by
    obtain ⟨a, b⟩ := sa_bd n (by omega) (fun p hp => h p (by omega))
    by_cases z : UNK (f n)
    · rw [SA6_n z]
      omega
    · obtain ⟨h1, h2, h3⟩ := (h n (by omega)).resolve_left z
      have m := absmul (x := (w n).toInt) (y := (f n).toInt + (d n).toInt) (A := 1000000) (B := 1000660000) (by omega) (by omega)
      have m2 : (w n).toInt * ((f n).toInt + (d n).toInt) ≤ (w n).toInt * 1000660000 := Int.mul_le_mul_of_nonneg_left (by omega) h1.1
      have m3 : (w n).toInt * (-1000660000) ≤ (w n).toInt * ((f n).toInt + (d n).toInt) := Int.mul_le_mul_of_nonneg_left (by omega) h1.1
      have e1 : ((SA6 f w d n).1 + (w n).toInt64).toInt = (SA6 f w d n).1.toInt + (w n).toInt := addL rfl (i2lI rfl) (by omega) (by omega)
      have e0 : ((f n).toInt64 + (d n).toInt64).toInt = (f n).toInt + (d n).toInt := addL (i2lI rfl) (i2lI rfl) (by omega) (by omega)
      have e2 : ((SA6 f w d n).2 + (w n).toInt64 * ((f n).toInt64 + (d n).toInt64)).toInt = (SA6 f w d n).2.toInt + (w n).toInt * ((f n).toInt + (d n).toInt) := addL rfl (mulL (i2lI rfl) e0 (by omega) (by omega)) (by omega) (by omega)
      rw [SA6_s z]
      show (0 ≤ ((SA6 f w d n).1 + (w n).toInt64).toInt ∧ ((SA6 f w d n).1 + (w n).toInt64).toInt ≤ _) ∧ (-1000660000 * ((SA6 f w d n).1 + (w n).toInt64).toInt ≤ ((SA6 f w d n).2 + (w n).toInt64 * ((f n).toInt64 + (d n).toInt64)).toInt ∧ ((SA6 f w d n).2 + (w n).toInt64 * ((f n).toInt64 + (d n).toInt64)).toInt ≤ 1000660000 * ((SA6 f w d n).1 + (w n).toInt64).toInt)
      rw [e1, e2]
      omega
/-! the difference that a way gives -/
theorem toldM_bd {σ : SI} {q hq : Nat} {hr : Int32} (h : RB6 σ) (hn : (toldM σ q hr hq).toInt ≠ 1000000) : -20000 ≤ (toldM σ q hr hq).toInt ∧ (toldM σ q hr hq).toInt ≤ 20000 := by
  have a := (h q).1
  have b := (h (24 * hq + q)).2.1
  have c := (h (24 * hq + q)).2.2
  unfold toldM at hn ⊢
  by_cases z1 : hr.toInt < 0 ∨ (σ 35 29).toInt < hr.toInt
  · rw [if_pos z1] at hn
    exact absurd (by decide) hn
  · rw [if_neg z1] at hn ⊢
    by_cases z2 : (σ 50 (24 * hq + q)).toInt = 0
    · rw [if_pos z2] at hn
      exact absurd (by decide) hn
    · rw [if_neg z2] at hn ⊢
      by_cases z3 : (σ 36 q).toInt = 4
      · rw [if_pos z3] at hn ⊢
        omega
      · rw [if_neg z3] at hn ⊢
        by_cases z4 : (σ 36 q).toInt = 5
        · rw [if_pos z4] at hn ⊢
          have e : (σ 48 (24 * hq + q) - σ 47 q).toInt = (σ 48 (24 * hq + q)).toInt - (σ 47 q).toInt := subI rfl rfl (by omega) (by omega)
          omega
        · rw [if_neg z4] at hn ⊢
          by_cases z5 : (σ 51 (24 * hq + q)).toInt = 0
          · rw [if_pos z5] at hn
            exact absurd (by decide) hn
          · rw [if_neg z5]
            have e : (σ 48 (24 * hq + q) + σ 49 (24 * hq + q)).toInt = (σ 48 (24 * hq + q)).toInt + (σ 49 (24 * hq + q)).toInt := addI rfl rfl (by omega) (by omega)
            have e8 : (8 : Int32).toInt = 8 := by decide
            have n1 : (((σ 48 (24 * hq + q)).toInt + (σ 49 (24 * hq + q)).toInt).tdiv 8).natAbs = ((σ 48 (24 * hq + q)).toInt + (σ 49 (24 * hq + q)).toInt).natAbs / 8 := Int.natAbs_tdiv _ _
            have d : ((σ 48 (24 * hq + q) + σ 49 (24 * hq + q)) / 8).toInt = ((σ 48 (24 * hq + q)).toInt + (σ 49 (24 * hq + q)).toInt).tdiv 8 := by
              rw [Int32.toInt_div, e, e8]
              exact bm32 (by omega) (by omega)
            omega
theorem DS_bd {x : Nat → Nat} {tl : Nat → Int32} {g lk : Nat → Nat} : ∀ k : Nat, k ≤ 23 → (∀ i, i < k → -20000 ≤ (tl (lk i)).toInt ∧ (tl (lk i)).toInt ≤ 20000) → -20000 * (k : Int) ≤ (DS x tl g lk k).toInt ∧ (DS x tl g lk k).toInt ≤ 20000 * (k : Int)
  | 0, _, _ => by
    show _ ≤ (0 : Int32).toInt ∧ (0 : Int32).toInt ≤ _
    rw [show (0 : Int32).toInt = 0 from by decide]
    omega
  | k + 1, hk, h => by
    have i := DS_bd (x := x) (tl := tl) (g := g) (lk := lk) k (by omega) (fun i hi => h i (by omega))
    have t := h k (by omega)
    have s : -20000 ≤ (sgn x tl (lk k) (g k)).toInt ∧ (sgn x tl (lk k) (g k)).toInt ≤ 20000 := by
      unfold sgn
      by_cases z : x (lk k) = g k
      · rw [if_pos z]
        exact t
      · rw [if_neg z, negI rfl (by omega)]
        omega
    have e : (DS x tl g lk (k + 1)).toInt = (DS x tl g lk k).toInt + (sgn x tl (lk k) (g k)).toInt := addI rfl rfl (by omega) (by omega)
    rw [e]
    omega
theorem go_dif {σ s s2 : SI} {r p m : Nat} {ra hr : Int32} {hq : Nat} (hR : RB6 σ) (hB : BQ (UM σ hr hq) (xM σ) (yM σ) (fun l => toldM σ l hr hq) r (24 * m) s) (hm : (s 12 6).toInt = (m : Int)) (hra : ra.toInt = (r : Int)) (hrp : r ≤ p) (hp : p < 24) (g : GO σ s2 (nI p) ra hr hq 1) :
    s2 35 43 = -(s 15 p) ∧ -460000 ≤ (s2 35 43).toInt ∧ (s2 35 43).toInt ≤ 460000 := by
  have ep : (nI p).toInt = (p : Int) := nI_T p (by omega)
  obtain ⟨f, hI, hL, hz⟩ := g
  rw [ep, hra, show (max (p : Int) (r : Int)).toNat = p by omega] at hI
  rw [ep, hra, show (max (p : Int) (r : Int)).toNat = p by omega, show (min (p : Int) (r : Int)).toNat = r by omega] at hz
  obtain ⟨c1, c2⟩ := ways_core hB hm hI hL hp
  rcases hz with ⟨z0, -⟩ | ⟨-, g', lk, k, g1, g2, g3, g4, -, g6⟩
  · exact absurd z0 (by decide)
  · have e15 := (c2 g' lk k g1 g2 g3 g4).2
    have bd := DS_bd (x := xM σ) (tl := fun l => toldM σ l hr hq) (g := g') (lk := lk) k g4 (fun i hi => by
      have u := (g1.2 i hi).2.1.1
      exact toldM_bd hR u.2.2)
    by_cases z : (p : Int) ≤ (r : Int)
    · have er : r = p := by omega
      have k0 : k = 0 := by
        have := hI.2.1
        rw [er, this] at g3
        omega
      subst k0
      rw [if_pos z] at g6
      have d0 : DS (xM σ) (fun l => toldM σ l hr hq) g' lk 0 = 0 := rfl
      rw [g6, e15, d0]
      decide
    · rw [if_neg z] at g6
      refine ⟨by rw [g6, e15], ?_⟩
      rw [g6, negI rfl (by omega)]
      omega
theorem cnt_p {P Q : Nat → Prop} {r : Nat} (hr : ¬ Q r) : ∀ (n : Nat) {v : Int32}, n ≤ 24 → CntR P Q 0 n v → (0 ≤ v.toInt ∧ v.toInt ≤ (n : Int)) ∧ (r < n → 1 ≤ v.toInt)
  | 0, v, _, h => by
    have h : v = 0 := h
    have e : (0 : Int32).toInt = 0 := by decide
    rw [h, e]
    exact ⟨by omega, fun g => absurd g (Nat.not_lt_zero _)⟩
  | n + 1, v, hn, h => by
    obtain ⟨w, h1, h2⟩ := h
    obtain ⟨a, b⟩ := cnt_p hr n (by omega) h1
    rcases h2 with ⟨-, e⟩ | ⟨hq, e⟩
    · have e1 : v.toInt = w.toInt + 1 := by rw [e]; exact addI rfl (by decide) (by omega) (by omega)
      exact ⟨by omega, fun _ => by omega⟩
    · rw [e]
      refine ⟨by omega, fun g => ?_⟩
      have : r ≠ n := fun z => hr (by rw [z]; exact hq)
      exact b (by omega)
/-! ===== the closing, place by place ===== -/
theorem fwm_bd {σ : SI} {p : Nat} (hk : KM σ) (c : 1 ≤ (σ 38 p).toInt ∧ (σ 38 p).toInt ≤ 12) : 0 ≤ (FWm σ p).toInt ∧ (FWm σ p).toInt ≤ 1000000 := FW_bd (pM_R hk) ⟨by omega, by omega⟩
theorem fwm_0 {σ : SI} {p : Nat} (h : UNK (FTm σ p)) : FWm σ p = 0 := by
  unfold FWm FW6
  rw [if_pos (Or.inl h)]
def PF6 (σ a1 b1 : SI) (hr : Int32) (p : Nat) : Prop :=
  (TkC σ p ∧ isC σ p ∧ b1 71 p = 1 ∧ rw6 a1 25 hr p = FTm σ p ∧ rw6 b1 55 hr p = FTm σ p ∧ rw6 a1 28 hr p = rw6 b1 58 hr p ∧ (-660000 ≤ (rw6 a1 28 hr p).toInt ∧ (rw6 a1 28 hr p).toInt ≤ 660000) ∧ a1 22 p = FWm σ p ∧ rw6 b1 57 hr p = FWm σ p) ∨
  (b1 71 p = 0 ∧ UNK (rw6 a1 25 hr p) ∧ UNK (rw6 a1 28 hr p) ∧ a1 22 p = 0)
def FM6 (σ m4 : SI) : Prop := (∀ k, 35 < k → k < 80 → k ≠ 52 → k ≠ 53 → k ≠ 59 → k ≠ 60 → k ≠ 63 → m4 k = σ k) ∧ m4 35 = σ 35 ∧ ∀ j, j < 24 * (σ 35 29).toInt.toNat → m4 52 j = σ 52 j ∧ m4 53 j = σ 53 j
theorem FM6.k6 {σ m4 : SI} (f : FM6 σ m4) : K6 σ m4 := ⟨fun k hk => f.1 k (by omega) (by omega) (by omega) (by omega) (by omega) (by omega) (by omega), by rw [f.2.1]⟩
theorem FM6.w {σ m4 : SI} (f : FM6 σ m4) {k : Nat} (h1 : 35 < k) (h2 : k ≤ 58) (h3 : k ≠ 52) (h4 : k ≠ 53) : m4 k = σ k := f.1 k h1 (by omega) h3 h4 (by omega) (by omega) (by omega)
theorem FM6.x {σ m4 : SI} {p : Nat} (f : FM6 σ m4) (hp : p < 24) : pX m4 p = pX σ p ∧ pM m4 p = pM σ p := by
  have e29 : m4 35 29 = σ 35 29 := by rw [f.2.1]
  have e43 := f.w (k := 43) (by decide) (by decide) (by decide) (by decide)
  exact ⟨pX_now hp e43 e29 (fun j hj => ⟨(f.2.2 j hj).1, by rw [f.w (k := 54) (by decide) (by decide) (by decide) (by decide)]⟩), (pM_now hp e43 e29 (fun j hj => ⟨(f.2.2 j hj).1, (f.2.2 j hj).2, by rw [f.w (k := 56) (by decide) (by decide) (by decide) (by decide)]⟩)).1⟩
theorem pf6_of {σ s0 a1 m4 b1 : SI} {rq p : Nat} {r : Int32} {x3 : Int64} (hI : Inv6 σ) (hlt : (σ 35 29).toInt < 200) (hs0 : s0 = up2 σ 21 6 0) (hrq : rq < 24) (hr : r.toInt = (rq : Int)) (tk : TkC σ rq ∧ ∀ i, i < rq → ¬ TkC σ i) (hHI : HI s0 a1 rq (σ 35 29) 24) (hHO : HO6 s0 a1 rq (σ 35 29) 24) (fm : FM6 σ m4) (hMA : MA6 m4 b1 r rq 24 x3) (hp : p < 24) : PF6 σ a1 b1 (σ 35 29) p := by
  obtain ⟨⟨hM, hC, hL⟩, hR, hE, hT, hS, hB, hK⟩ := hI
  have hn := hM.1
  have k6 := fm.k6
  have e29 : m4 35 29 = σ 35 29 := k6.2
  have hLV := lv_of (hr := σ 35 29) hR hE hn rfl hn.1 (Int.le_refl _)
  obtain ⟨m, q1, q2, q3⟩ := hHI _ _ _ _ (LV.u21 hs0 hLV)
  have t0 : TkC s0 p ↔ TkC σ p := tk_21 hs0
  have u0 : ∀ k, k ≠ 21 → s0 k = σ k := fun k hk => by rw [hs0]; exact up2_ne hk
  obtain ⟨ex, em⟩ := fm.x hp
  have w : ∀ k, 35 < k → k ≤ 58 → k ≠ 52 → k ≠ 53 → m4 k = σ k := fun k a b c d => fm.w a b c d
  have eF : FTm m4 p = FTm σ p := by
    unfold FTm
    rw [ex, e29, w 37 (by decide) (by decide) (by decide) (by decide), w 36 (by decide) (by decide) (by decide) (by decide)]
  have eW : FWm m4 p = FWm σ p := by
    unfold FWm
    rw [eF, em, e29, w 41 (by decide) (by decide) (by decide) (by decide), w 38 (by decide) (by decide) (by decide) (by decide)]
  have w42 := w 42 (by decide) (by decide) (by decide) (by decide)
  have least : TkC σ p → rq ≤ p := fun t => by
    rcases Nat.lt_or_ge p rq with z | z
    · exact absurd t (tk.2 p z)
    · exact z
  have hmp := hMA.2.2.2.1 p hp
  rw [e29] at hmp
  rcases hmp with ⟨b71, ⟨tkm, s2, go, ed⟩, b55, b57⟩ | ⟨b71, hq⟩
  · have tkm' : TkM σ p := (TkM_x k6).mp tkm
    have tkc : TkC σ p := (tk_ag hR hp).mpr tkm'
    have hrp := least tkc
    have go' := go_s k6 go
    obtain ⟨d1, d2, d3⟩ := go_dif hB q1 q2 hr hrp hp go'
    have hc : isC σ p := ⟨tkm'.1, tkm'.2.1⟩
    have ck := hK p hp hc
    have kr := (hR p hp).2.2.2 hc
    have tkr := (tk_ag hR hrq).mp tk.1
    have krq := (hR rq hrq).2.2.2 ⟨tkr.1, tkr.2.1⟩
    have len : (a1 14 p).toInt ≠ -1 := by
      rcases go_len q1 q2 hr hrp hp go' with ⟨z, -⟩ | ⟨-, z⟩
      · exact absurd z (by decide)
      · exact z
    rcases hHO.2.2 p hp with ⟨h1, h2, h3, h4, h5⟩ | ⟨h1, -⟩
    · left
      obtain ⟨x1, x2⟩ := xc_px hT ck hn hp
      have e80 : s0 (80 + p) = σ (80 + p) := u0 (80 + p) (by omega)
      have y1 : xC s0 24 p = pX σ p := (xC_ex (by rw [e80]) (u0 24 (by decide))).trans x1
      have y2 : xC s0 26 p = pM σ p := (xC_ex (by rw [e80]) (u0 26 (by decide))).trans x2
      have f25 : FTc s0 p (σ 35 29) = FTm σ p := by
        show FT (xC s0 24 p) (s0 (80 + p) 2).toInt (σ 35 29).toInt (s0 (80 + p) 1).toInt = FTm σ p
        rw [y1, e80, ck.1.1, kr.1]
        rfl
      have f22 : FWc s0 p (σ 35 29) = FWm σ p := by
        show FW6 (s0 (80 + p) 7).toInt (FTc s0 p (σ 35 29)) (xC s0 26 p) (s0 (80 + p) 3).toInt (σ 35 29).toInt = FWm σ p
        rw [f25, y2, e80, ck.2.2.2.1, ck.2.1.1]
        rfl
      have s1 := hM.2.2.2.1 p hp
      have s2' := hM.2.2.2.1 rq hrq
      rw [w42] at ed
      have dd : rw6 a1 28 (σ 35 29) p = rw6 b1 58 (σ 35 29) p := by
        rw [ed]
        show a1 28 _ = _
        rw [h4]
        show ((-(a1 15 p)) - s0 (80 + p) 4) + s0 (80 + rq) 4 = _
        rw [e80, u0 (80 + rq) (by omega), kr.2.1, krq.2.1, d1]
      have eD : (s2 35 43 - σ 42 p + σ 42 rq).toInt = (s2 35 43).toInt - (σ 42 p).toInt + (σ 42 rq).toInt := addI (subI rfl rfl (by omega) (by omega)) rfl (by omega) (by omega)
      exact ⟨tkc, hc, b71, h3.trans f25, b55.trans eF, dd, by rw [dd, ed, eD]; omega, h5.trans f22, b57.trans eW⟩
    · exfalso
      rcases h1 with h1 | h1
      · exact h1 (t0.mpr tkc)
      · exact len h1
  · right
    rcases hHO.2.2 p hp with ⟨h1, h2, -⟩ | ⟨-, h3, h4, h5⟩
    · exfalso
      have tkc := t0.mp h1
      have hrp := least tkc
      rcases hq with hq | ⟨s3, hq⟩
      · exact hq ((TkM_x k6).mpr ((tk_ag hR hp).mp tkc))
      · rcases go_len q1 q2 hr hrp hp (go_s k6 hq) with ⟨-, z⟩ | ⟨z, -⟩
        · exact h2 z
        · exact absurd z (by decide)
    · have u := hT.2.1 (24 * (σ 35 29).toInt.toNat + p) (by omega) (by omega)
      refine ⟨b71, ?_, ?_, h5⟩
      · show UNK (a1 25 _)
        rw [h3, u0 25 (by decide)]
        exact u.2.1
      · show UNK (a1 28 _)
        rw [h4, u0 28 (by decide)]
        exact u.2.2.2
theorem mo_ag {σ a1 b1 : SI} {hr : Int32} {x3 : Int64} (hP : ∀ p, p < 24 → PF6 σ a1 b1 hr p) (e : x3 = SWp (b1 71) (rw6 b1 57 hr) 24) : SW6 (a1 22) 24 = x3 := by
  rw [e]
  refine sw_ag 24 (fun p hp => ?_)
  rcases hP p hp with ⟨-, -, h1, -, -, -, -, h2, h3⟩ | ⟨h1, -, -, h2⟩
  · exact Or.inr ⟨by rw [h1]; decide, h2.trans h3.symm⟩
  · exact Or.inl ⟨by rw [h1]; decide, h2⟩
theorem spl6 {σ a1 a2 b1 : SI} {hr : Int32} {M : Int} {p : Nat} (hk : KM σ) (hK : ∀ q, q < 24 → isC σ q → CK6 σ q) (h1 : 1 ≤ M) (hW : WG6 a1 a2 hr M 24) (hp : p < 24) (h : PF6 σ a1 b1 hr p) :
    SPl (b1 71) (rw6 a2 25 hr) (rw6 a2 27 hr) (rw6 a2 28 hr) (rw6 b1 55 hr) (fun p => wt6 (rw6 b1 57 hr p) M) (rw6 b1 58 hr) p ∧
    (UNK (rw6 a2 25 hr p) ∨ ((0 ≤ (rw6 a2 27 hr p).toInt ∧ (rw6 a2 27 hr p).toInt ≤ 1000000) ∧ (-1000000000 ≤ (rw6 a2 25 hr p).toInt ∧ (rw6 a2 25 hr p).toInt ≤ 1000000000) ∧ (-660000 ≤ (rw6 a2 28 hr p).toInt ∧ (rw6 a2 28 hr p).toInt ≤ 660000))) := by
  have e25 : rw6 a2 25 hr p = rw6 a1 25 hr p := by show a2 25 _ = a1 25 _; rw [hW.1 25 (by decide)]
  have e28 : rw6 a2 28 hr p = rw6 a1 28 hr p := by show a2 28 _ = a1 28 _; rw [hW.1 28 (by decide)]
  have e27 : rw6 a2 27 hr p = wt6 (a1 22 p) M := hW.2.1 p hp
  unfold SPl
  rw [e25, e28, e27]
  rcases h with ⟨-, h1', h2, h3, h4, h5, h6, h7, h8⟩ | ⟨h2, h3, -⟩
  · have ck := hK p hp h1'
    have fb := fwm_bd hk ck.2.1.2
    have ew : (wt6 (a1 22 p) M).toInt = min (FWm σ p).toInt M := by rw [wt6_T h1, h7]
    refine ⟨Or.inr ⟨by rw [h2]; decide, h3.trans h4.symm, by rw [h7]; show _ = wt6 (rw6 b1 57 hr p) M; rw [h8], h5, by rw [ew]; omega, fun u => ?_⟩, ?_⟩
    · rw [h3] at u
      rw [ew, fwm_0 u, show (0 : Int32).toInt = 0 from by decide]
      omega
    · rcases FT_bd (f := pX σ p) (sp := (σ 37 p).toInt) (h := (σ 35 29).toInt) (kd := (σ 36 p).toInt) with z | z
      · left
        rw [h3]
        exact z
      · right
        rw [h3]
        exact ⟨by rw [ew]; omega, z, h6⟩
  · exact ⟨Or.inl ⟨by rw [h2]; decide, h3⟩, Or.inl h3⟩
theorem xr_ag {a2 a3 b2 b3 : SI} {hr x2 : Int32} {xr x7 x9 x11 : Int64} (hS : SAc a2 hr 24 = (x7, x9)) (b7 : 0 ≤ x7.toInt ∧ x7.toInt ≤ 24000000) (b9 : -1000660000 * x7.toInt ≤ x9.toInt ∧ x9.toInt ≤ 1000660000 * x7.toInt) (hP : MP6 a2 a3 hr xr) (hX : XR6 x7 x9 x11) (hQ : MP7 b2 b3 hr x2 x7 x9 x11) :
    xr = x11 ∧ (-1000660000 ≤ x11.toInt ∧ x11.toInt ≤ 1000660000) ∧ a3 31 hr.toInt.toNat = b3 64 hr.toInt.toNat ∧ a3 32 hr.toInt.toNat = b3 61 hr.toInt.toNat := by
  obtain ⟨-, -, p31, p32⟩ := hP
  obtain ⟨-, -, -, q64, q61⟩ := hQ
  rw [hS] at p31 p32
  have p32 : (0 < x7.toInt ∧ (-4000000000000000000 < x9.toInt → xr.toInt = x9.toInt / x7.toInt ∧ ∃ r : Int64, r.toInt = x9.toInt % x7.toInt ∧ a3 32 hr.toInt.toNat = r.toInt32)) ∨ (x7.toInt ≤ 0 ∧ xr = 0 ∧ a3 32 hr.toInt.toNat = 0) := p32
  have e31 : a3 31 hr.toInt.toNat = b3 64 hr.toInt.toNat := p31.trans q64.symm
  rcases p32 with ⟨c, p⟩ | ⟨c, p1, p2⟩
  · obtain ⟨g1, r, g2, g3⟩ := p (by omega)
    rcases hX with ⟨z, -⟩ | ⟨-, hX⟩
    · omega
    · have g4 := hX c (by omega) (by omega)
      have l1 : -1000660000 ≤ x9.toInt / x7.toInt := (Int.le_ediv_iff_mul_le c).mpr (by omega)
      have l2 : x9.toInt / x7.toInt < 1000660001 := (Int.ediv_lt_iff_lt_mul c).mpr (by omega)
      refine ⟨i64_ext (g1.trans g4.symm), by omega, e31, ?_⟩
      rcases q61 with ⟨z, -⟩ | ⟨-, q61⟩
      · omega
      · have m := absmul (x := x11.toInt) (y := x7.toInt) (A := 1000660000) (B := 24000000) (by omega) (by omega)
        have e : (x9 - x11 * x7).toInt = x9.toInt - x11.toInt * x7.toInt := subL rfl (mulL rfl rfl (by omega) (by omega)) (by omega) (by omega)
        have er : r = x9 - x11 * x7 := i64_ext (by rw [e, g2, g4, Int.emod_def, Int.mul_comm])
        rw [g3, q61, er]
  · have z : x7.toInt = 0 := by omega
    rcases hX with ⟨-, hX⟩ | ⟨y, -⟩
    · refine ⟨by rw [p1, hX], by rw [hX]; decide, e31, ?_⟩
      rcases q61 with ⟨-, q61⟩ | ⟨y, -⟩
      · rw [p2, q61]
      · exact absurd z y
    · exact absurd z y
def NR6 (σ a4 b4 : SI) (hr : Int32) (p : Nat) : Prop :=
  (isC σ p ∧ (b4 71 p).toInt ≠ 0 ∧ rw6 a4 24 hr p = rw6 b4 54 hr p ∧ (-1100000000 ≤ (rw6 b4 54 hr p).toInt ∧ (rw6 b4 54 hr p).toInt ≤ 1100000000) ∧ ((¬ UNK (rw6 b4 55 hr p) ∧ rw6 a4 26 hr p = rw6 b4 56 hr p ∧ ¬ UNK (rw6 a4 26 hr p)) ∨ (UNK (rw6 b4 55 hr p) ∧ UNK (rw6 a4 26 hr p)))) ∨
  ((b4 71 p).toInt = 0 ∧ UNK (rw6 a4 24 hr p) ∧ UNK (rw6 a4 26 hr p))
theorem nr6_of {σ a1 a3 a4 b1 b3 b4 : SI} {hr : Int32} {p : Nat} {xr x11 : Int64} (h : PF6 σ a1 b1 hr p) (hp : p < 24) (fa : a3 25 = a1 25 ∧ a3 28 = a1 28) (fb : b3 71 = b1 71 ∧ b3 58 = b1 58 ∧ b3 55 = b1 55) (hu : UNK (rw6 a3 24 hr p) ∧ UNK (rw6 a3 26 hr p)) (ex : xr = x11) (bx : -1000660000 ≤ x11.toInt ∧ x11.toInt ≤ 1000660000) (hT : TW6 a3 a4 hr xr 24) (hM : MX6 b3 b4 hr x11 24) : NR6 σ a4 b4 hr p := by
  subst ex
  obtain ⟨-, -, -, -, S, -, -, hM6⟩ := id hM
  have c71 : b4 71 = b1 71 := (hM.1 71 (by decide) (by decide) (by omega) (by decide) (by decide) (by omega)).trans fb.1
  have c55 : rw6 b4 55 hr p = rw6 b1 55 hr p := by show b4 55 _ = b1 55 _; rw [hM.1 55 (by decide) (by decide) (by omega) (by decide) (by decide) (by omega), fb.2.2]
  have k55 : rw6 b3 55 hr p = rw6 b1 55 hr p := by show b3 55 _ = b1 55 _; rw [fb.2.2]
  have k58 : rw6 b3 58 hr p = rw6 b1 58 hr p := by show b3 58 _ = b1 58 _; rw [fb.2.1]
  have k25 : rw6 a3 25 hr p = rw6 a1 25 hr p := by show a3 25 _ = a1 25 _; rw [fa.1]
  have k28 : rw6 a3 28 hr p = rw6 a1 28 hr p := by show a3 28 _ = a1 28 _; rw [fa.2]
  have ht := hT.2.2 p hp
  have hm := hM6 p hp
  rw [k25, k28] at ht
  rw [fb.1, k55, k58] at hm
  unfold NR6
  rw [c71, c55]
  rcases h with ⟨-, h1, h2, h3, h4, h5, h6, h7, h8⟩ | ⟨h2, h3, h4, -⟩
  · left
    have n71 : (b1 71 p).toInt ≠ 0 := by rw [h2]; decide
    rcases hm with ⟨z, -⟩ | ⟨-, m1, m2, -⟩
    · exact absurd z n71
    · rcases ht with ⟨z, -⟩ | ⟨-, t1, t2⟩
      · exfalso; omega
      · have eX : rw6 a4 24 hr p = rw6 b4 54 hr p := by rw [t1, m1, h5]
        have d := h6
        rw [h5] at d
        have e0 : (xr - (rw6 b1 58 hr p).toInt64).toInt = xr.toInt - (rw6 b1 58 hr p).toInt := subL rfl (i2lI rfl) (by omega) (by omega)
        have e1 : (rw6 b4 54 hr p).toInt = xr.toInt - (rw6 b1 58 hr p).toInt := by rw [m1]; exact l2iI e0 (by omega) (by omega)
        refine ⟨h1, n71, eX, by omega, ?_⟩
        rw [h3] at t2
        rw [h4] at m2 ⊢
        rcases t2 with ⟨u1, u2⟩ | ⟨u1, u2⟩
        · right
          exact ⟨u1, by rw [u2]; exact hu.2⟩
        · left
          have fb2 : -1000000000 ≤ (FTm σ p).toInt ∧ (FTm σ p).toInt ≤ 1000000000 := (FT_bd (f := pX σ p) (sp := (σ 37 p).toInt) (h := (σ 35 29).toInt) (kd := (σ 36 p).toInt)).resolve_left u1
          rw [h5] at u2
          have e2 : (xr - (rw6 b1 58 hr p).toInt64 - (FTm σ p).toInt64).toInt = xr.toInt - (rw6 b1 58 hr p).toInt - (FTm σ p).toInt := subL e0 (i2lI rfl) (by omega) (by omega)
          have e3 : ((rw6 b4 54 hr p).toInt64 - (FTm σ p).toInt64).toInt = xr.toInt - (rw6 b1 58 hr p).toInt - (FTm σ p).toInt := subL (i2lI e1) (i2lI rfl) (by omega) (by omega)
          have u2 : (rw6 a4 26 hr p).toInt = max (-30000) (min 30000 _) := u2
          have m2 : (rw6 b4 56 hr p).toInt = max (-30000) (min 30000 _) := m2
          rw [e2] at u2
          rw [e3] at m2
          refine ⟨u1, i32_ext (u2.trans m2.symm), ?_⟩
          show ¬ (rw6 a4 26 hr p).toInt = 2000000000
          omega
  · right
    have z71 : (b1 71 p).toInt = 0 := by rw [h2]; decide
    rcases ht with ⟨-, t1, t2⟩ | ⟨z, -⟩
    · exact ⟨z71, by rw [t1]; exact hu.1, by rw [t2]; exact hu.2⟩
    · exact absurd h4 z
/-- the clocks and the STEPS after a closing -/
def CA6 (σ a5 b4 : SI) (hr : Int32) (p : Nat) : Prop := isC σ p → a5 (80 + p) 7 = b4 41 p ∧ R9 (a5 (80 + p) 9) (b4 44 p) ∧ a5 (80 + p) 10 = b4 45 p ∧ a5 (80 + p) 11 = b4 46 p ∧ (b4 44 p = σ 44 p ∨ (b4 44 p = hr ∧ (b4 71 p).toInt ≠ 0 ∧ ¬ UNK (rw6 b4 55 hr p)))
theorem ca6_of {σ a4 a5 b3 b4 : SI} {hr ti : Int32} {x11 : Int64} (hR : Rel σ) (hT : RT6 σ) (hK : ∀ q, q < 24 → isC σ q → CK6 σ q) (hn : 0 ≤ (σ 35 29).toInt ∧ (σ 35 29).toInt ≤ 200) (e29 : hr = σ 35 29)
    (fa : (∀ k, k = 2 ∨ (8 ≤ k ∧ k ≤ 11) ∨ (80 ≤ k ∧ k < 104) → a4 k = σ k) ∧ ∀ j, j < 24 * (σ 35 29).toInt.toNat → a4 26 j = σ 26 j) (fb : (∀ k, k = 38 ∨ k = 41 ∨ (43 ≤ k ∧ k ≤ 46) ∨ (65 ≤ k ∧ k ≤ 67) → b3 k = σ k) ∧ (∀ j, j = 29 ∨ j = 31 ∨ j = 37 → b3 35 j = σ 35 j) ∧ ∀ j, j < 24 * (σ 35 29).toInt.toNat → b3 52 j = σ 52 j ∧ b3 53 j = σ 53 j ∧ b3 56 j = σ 56 j)
    (ht : ti = σ 35 31) (hN : ∀ p, p < 24 → NR6 σ a4 b4 hr p) (hJ : JA6 a4 a5 hr ti 24) (hM : MX6 b3 b4 hr x11 24) : (∀ p, p < 24 → CA6 σ a5 b4 hr p) ∧ stC a5 = stM6 b4 := by
  obtain ⟨j1, j2, j3, S, j4, j5, j6⟩ := hJ
  obtain ⟨m1, m2, m3, m4, T, m5, m6, m7⟩ := hM
  have c71 : b4 71 = b3 71 := m1 71 (by decide) (by decide) (by omega) (by decide) (by decide) (by omega)
  have c55 : b4 55 = b3 55 := m1 55 (by decide) (by decide) (by omega) (by decide) (by decide) (by omega)
  have s0 : S 0 = T 0 := by
    rw [j4, m5]
    have h := hT.2.2.2.2.1
    unfold stC stM6 at h ⊢
    rw [fa.1 8 (by omega), fa.1 9 (by omega), fa.1 10 (by omega), fa.1 11 (by omega), fb.1 65 (by omega), fb.1 66 (by omega), fb.1 67 (by omega), fb.2.1 37 (by omega)]
    exact h
  have step : ∀ p, p < 24 → S p = T p → S (p + 1) = T (p + 1) ∧ CA6 σ a5 b4 hr p := by
    intro p hp hST
    have a80 : a4 (80 + p) = σ (80 + p) := fa.1 (80 + p) (by omega)
    have kp := (hR p hp).1
    have bs : Sm6 b3 b4 p → b4 41 p = σ 41 p ∧ b4 44 p = σ 44 p ∧ b4 45 p = σ 45 p ∧ b4 46 p = σ 46 p := fun z => by
      obtain ⟨z1, z2, z3, z4⟩ := z
      rw [z1, z2, z3, z4, fb.1 41 (by omega), fb.1 44 (by omega), fb.1 45 (by omega), fb.1 46 (by omega)]
      exact ⟨rfl, rfl, rfl, rfl⟩
    have still : a5 (80 + p) = a4 (80 + p) → Sm6 b3 b4 p → CA6 σ a5 b4 hr p := fun z1 z2 hc => by
      have ck := hK p hp hc
      obtain ⟨y1, y2, y3, y4⟩ := bs z2
      rw [z1, a80, y1, y2, y3, y4]
      exact ⟨ck.2.2.2.1, ck.2.2.2.2.1, ck.2.2.2.2.2.1, ck.2.2.2.2.2.2.1, Or.inl rfl⟩
    have jd : Jd6 a4 hr p → isC σ p := fun z => by
      have z1 := z.1
      rw [fa.1 2 (by omega), kp] at z1
      exact z1
    rcases hN p hp with ⟨n1, n2, n3, n4, n5⟩ | ⟨n1, n2, n3⟩
    · have ck := hK p hp n1
      have jdi : Jd6 a4 hr p ↔ Jm6 b3 hr p := by
        unfold Jd6 Jm6
        have e55 : rw6 b3 55 hr p = rw6 b4 55 hr p := by show b3 55 _ = b4 55 _; rw [c55]
        rw [fa.1 2 (by omega), kp, a80, ck.2.2.2.1, fb.1 41 (by omega), e55]
        constructor
        · rintro ⟨-, z2, z3⟩
          rcases n5 with ⟨n5, -⟩ | ⟨-, n6⟩
          · exact ⟨n5, z2⟩
          · exact absurd n6 z3
        · rintro ⟨z1, z2⟩
          rcases n5 with ⟨-, -, n7⟩ | ⟨n5, -⟩
          · exact ⟨n1, z2, n7⟩
          · exact absurd n5 z1
      rcases m7 p hp with ⟨z, -⟩ | ⟨-, -, -, q⟩
      · rw [c71] at n2
        exact absurd z n2
      · rcases j6 p hp with ⟨g1, g2⟩ | ⟨g1, g2, g3⟩
        · rcases q with ⟨q1, q2⟩ | ⟨q1, -⟩
          · have q1' : ¬ UNK (rw6 b4 55 hr p) := by
              have e55 : rw6 b4 55 hr p = rw6 b3 55 hr p := by show b4 55 _ = b3 55 _; rw [c55]
              rw [e55]
              exact q1.1
            rcases n5 with ⟨-, n6, -⟩ | ⟨n5, -⟩
            · obtain ⟨x1, x2⟩ := xc_px hT ck hn hp
              have epm : pM b3 p = pM σ p := (pM_now hp (fb.1 43 (by omega)) (fb.2.1 29 (by omega)) fb.2.2).1
              have hfg : ∀ t, t < hr.toInt → xC a4 26 p t = pM b3 p t := fun t ht => by
                rw [epm, ← x2]
                unfold xC rC
                rw [a80]
                by_cases y1 : t < (σ (80 + p) 8).toInt
                · rw [if_pos y1, if_pos y1]
                · rw [if_neg y1, if_neg y1]
                  by_cases y2 : t < 0 ∨ 200 ≤ t
                  · rw [if_pos y2, if_pos y2]
                  · rw [if_neg y2, if_neg y2, fa.2 _ (by rw [← e29]; omega)]
              unfold JVc at g2
              unfold JVm at q2
              rw [a80, n6, ck.2.1.1] at g2
              rw [fb.1 38 (by omega), fb.2.1 31 (by omega), ← ht, fb.1 41 (by omega), fb.1 44 (by omega), fb.1 45 (by omega), fb.1 46 (by omega)] at q2
              have g := JV6_ag hfg (by have := ck.2.1.2; omega) (by rw [e29]; exact hn.1) g2 q2 ck.2.2.2.1 ck.2.2.2.2.1 ck.2.2.2.2.2.1 ck.2.2.2.2.2.2.1 hST
              refine ⟨g.2.2.2.2, fun _ => ⟨g.1, g.2.1, g.2.2.1, g.2.2.2.1, ?_⟩⟩
              rcases JV6_9 q2 with w | w
              · exact Or.inl w
              · exact Or.inr ⟨w, n2, q1'⟩
            · exact absurd n5 q1'
          · exact absurd (jdi.mp g1) q1
        · rcases q with ⟨q1, -⟩ | ⟨-, q2, q3⟩
          · exact absurd (jdi.mpr q1) g1
          · exact ⟨by rw [g3, q3]; exact hST, still g2 q2⟩
    · have nj : ¬ Jd6 a4 hr p := fun z => z.2.2 n3
      rw [c71] at n1
      rcases m7 p hp with ⟨-, -, -, q2, q3⟩ | ⟨z, -⟩
      · rcases j6 p hp with ⟨g1, -⟩ | ⟨-, g2, g3⟩
        · exact absurd g1 nj
        · exact ⟨by rw [g3, q3]; exact hST, still g2 q2⟩
      · exact absurd n1 z
  have all : ∀ n, n ≤ 24 → S n = T n := by
    intro n
    induction n with
    | zero => intro _; exact s0
    | succ n ih => intro hn2; exact (step n (by omega) (ih (by omega))).1
  exact ⟨fun p hp => (step p hp (all p (by omega))).2, by rw [j5, m6]; exact all 24 (Nat.le_refl _)⟩
/-! ===== the relation after a closing ===== -/
theorem Rel6.nx {σ s2 : SI} (h : Rel6 σ) (hn : 0 ≤ (σ 35 29).toInt ∧ (σ 35 29).toInt < 200) (e29 : (s2 35 29).toInt = (σ 35 29).toInt + 1)
    (old : ∀ j, j < 24 * (σ 35 29).toInt.toNat → (s2 24 j = σ 24 j ∧ s2 26 j = σ 26 j) ∧ s2 52 j = σ 52 j ∧ s2 53 j = σ 53 j ∧ s2 54 j = σ 54 j ∧ s2 56 j = σ 56 j)
    (far : ∀ j, 24 * ((σ 35 29).toInt.toNat + 1) ≤ j → s2 24 j = σ 24 j ∧ s2 25 j = σ 25 j ∧ s2 26 j = σ 26 j ∧ s2 28 j = σ 28 j)
    (new : ∀ p, p < 24 → TR6 s2 (24 * (σ 35 29).toInt.toNat + p)) (pold : ∀ h, h ≠ (σ 35 29).toInt.toNat → (∀ k, 29 ≤ k → k ≤ 34 → s2 k h = σ k h) ∧ ∀ k, 59 ≤ k → k ≤ 64 → s2 k h = σ k h) (pnew : PP6 s2 (σ 35 29).toInt.toNat)
    (st : stC s2 = stM6 s2) (xb : XB s2) (rs : RS6 s2) (rb : RB6 s2) (ck : ∀ q, q < 24 → isC s2 q → CK6 s2 q) : Rel6 s2 := by
  have eN : (s2 35 29).toInt.toNat = (σ 35 29).toInt.toNat + 1 := by omega
  unfold Rel6 RT6
  rw [eN]
  refine ⟨⟨fun i hi => ?_, fun i h1 h2 => ?_, fun g hg => ?_, fun g h1 h2 k k1 k2 => ?_, st, xb⟩, rs, rb, ck⟩
  · by_cases z : i < 24 * (σ 35 29).toInt.toNat
    · have o := old i z
      have a := h.1.1 i z
      unfold TR6 at a ⊢
      rw [o.1.1, o.1.2, o.2.1, o.2.2.1, o.2.2.2.1, o.2.2.2.2]
      exact a
    · have a := new (i - 24 * (σ 35 29).toInt.toNat) (by omega)
      rw [show 24 * (σ 35 29).toInt.toNat + (i - 24 * (σ 35 29).toInt.toNat) = i by omega] at a
      exact a
  · have f := far i h1
    have a := h.1.2.1 i (by omega) h2
    rw [f.1, f.2.1, f.2.2.1, f.2.2.2]
    exact a
  · by_cases z : g = (σ 35 29).toInt.toNat
    · rw [z]
      exact pnew
    · obtain ⟨o1, o2⟩ := pold g z
      have a := h.1.2.2.1 g (by omega)
      unfold PP6 at a ⊢
      rw [o2 59 (by omega) (by omega), o2 60 (by omega) (by omega), o2 61 (by omega) (by omega), o2 62 (by omega) (by omega), o2 63 (by omega) (by omega), o2 64 (by omega) (by omega), o1 29 (by omega) (by omega), o1 30 (by omega) (by omega), o1 31 (by omega) (by omega), o1 32 (by omega) (by omega), o1 33 (by omega) (by omega), o1 34 (by omega) (by omega)]
      rcases a with a | ⟨a1, a2⟩
      · exact Or.inl a
      · exact Or.inr ⟨a1, fun k k1 k2 => by rw [o1 k k1 k2]; exact a2 k k1 k2⟩
  · rw [(pold g (by omega)).1 k k1 k2]
    exact h.1.2.2.2.1 g (by omega) h2 k k1 k2
theorem imp_nx {σ s2 : SI} {q : Nat} {t : Int} (hq : q < 24) (e43 : s2 43 = σ 43) (e29 : (s2 35 29).toInt = (σ 35 29).toInt + 1) (he : ∀ j, j < 24 * (σ 35 29).toInt.toNat → s2 52 j = σ 52 j ∧ s2 53 j = σ 53 j) (h : isMp σ q t) : isMp s2 q t := by
  obtain ⟨⟨a, b, c, d⟩, e⟩ := h
  have g := he (24 * t.toNat + q) (by omega)
  refine ⟨⟨by rw [e43]; exact a, b, by omega, by rw [g.1]; exact d⟩, by rw [g.2]; exact e⟩
set_option maxHeartbeats 4000000 in
theorem rel6_cl {σ s1 s2 : SI} {v v2 : Int32} (hI : Inv6 σ) (hL2 : RLq s2) (hcc : ClC σ s1) (hmf : Mfr s1 s2) (hmx : (∀ k, 35 < k → k < 80 → ¬ (41 ≤ k ∧ k ≤ 46 ∧ k ≠ 42 ∧ k ≠ 43) → k < 52 → s2 k = s1 k) ∧ s2 35 30 = s1 35 30 ∧ s2 35 31 = s1 35 31) (w : CX6 σ s1 v) (w2 : ZC6 s1 s2 v2) (hv : v = v2) (hlt : (σ 0 8).toInt < 200) : Rel6 s2 := by
  obtain ⟨⟨hM, hC, hL⟩, hR, hE, h6⟩ := id hI
  obtain ⟨hT, hS, hB, hK⟩ := id h6
  have hn := hM.1
  have h8 : σ 0 8 = σ 35 29 := hL.1
  rw [h8] at hlt
  obtain ⟨c1, c2, c3, hCH, k0, j0, hoff, es1⟩ := w
  rw [h8] at hCH hoff es1
  obtain ⟨m5, m6, wv, hZA, e6, es2⟩ := w2
  obtain ⟨m1, m4, r, hMZ, hRT, e4, hcase⟩ := hZA
  have hm : ∀ k, 35 ≤ k → k < 80 → s1 k = σ k := fun k a b => hcc.1 k (by omega)
  have h35 : s1 35 = σ 35 := hm 35 (by omega) (by omega)
  have zf := z4_fr hMZ e4
  rw [h35] at e4 es2 zf
  have hz0 : ∀ p, p < 24 → m1 52 (24 * (σ 35 29).toInt.toNat + p) = 0 := fun p hp => by
    have := (hMZ.2.2 p hp).1
    rw [h35] at this
    exact this
  have fm : FM6 σ m4 := ⟨fun k a b c d e f g => (zf.1 k c d e f g).trans (hm k (by omega) b), (zf.1 35 (by decide) (by decide) (by decide) (by decide) (by decide)).trans h35, fun j hj => by
    have g := zf.2 j hj
    rw [g.1, g.2, hm 52 (by omega) (by omega), hm 53 (by omega) (by omega)]
    exact ⟨rfl, rfl⟩⟩
  have k61 : K6 σ m1 := ⟨fun k hk => (hMZ.1 k (by omega) (by omega)).trans (hm k (by omega) (by omega)), by rw [hMZ.1 35 (by decide) (by decide), h35]⟩
  -- the class's rows at the end
  have c3k : ∀ k, k ≠ 33 → c3 k = c2 k := fun k hk => by
    rcases hoff with ⟨-, e⟩ | ⟨-, e⟩
    · rw [e]; exact up2_ne hk
    · rw [e]
  have sc : ∀ k, k ≠ 0 → k ≠ 33 → (k < 35 ∨ 80 ≤ k) → s2 k = c1 k := fun k a b c => by rw [hmf k c, es1, up2_ne a, c3k k b, k0 k a]
  have s09 : s2 0 9 = σ 0 9 := by rw [hmf 0 (by omega), es1, up2_n (by decide), c3k 0 (by decide)]; exact j0 9 (by decide)
  have s010 : s2 0 10 = σ 0 10 := by rw [hmf 0 (by omega), es1, up2_n (by decide), c3k 0 (by decide)]; exact j0 10 (by decide)
  have s012 : s2 0 12 = c2 0 12 := by rw [hmf 0 (by omega), es1, up2_n (by decide), c3k 0 (by decide)]
  have rs : RS6 s2 := ⟨by rw [s09, hmx.2.1, h35]; exact hS.1, by rw [s010, hmx.2.2, h35]; exact hS.2⟩
  have mk : ∀ k, 35 < k → k < 80 → ¬ (41 ≤ k ∧ k ≤ 46 ∧ k ≠ 42 ∧ k ≠ 43) → k < 52 → s2 k = σ k := fun k a b c d => (hmx.1 k a b c d).trans (hm k (by omega) b)
  have rb : RB6 s2 := hB.ex (mk 47 (by decide) (by decide) (by omega) (by decide)) (mk 48 (by decide) (by decide) (by omega) (by decide)) (mk 49 (by decide) (by decide) (by omega) (by decide))
  -- the reference's rows at the end
  have sm : ∀ k, k ≠ 35 → k ≠ 62 → s2 k = m5 k := fun k a b => by rw [es2, up2_ne a, up2_ne b, e6, up2_ne a]
  have s37 : s2 35 37 = m5 35 37 := by rw [es2, up2_n (by decide), up2_o (by decide), e6, up2_n (by decide)]
  have s62 : s2 62 (σ 35 29).toInt.toNat = wv := by rw [es2, up2_o (by decide), up2_s]
  have o62 : ∀ g, g ≠ (σ 35 29).toInt.toNat → s2 62 g = m5 62 g := fun g hg => by rw [es2, up2_o (by decide), up2_n hg, e6, up2_o (by decide)]
  have s33 : s2 35 33 = wv := by rw [es2, up2_n (by decide), up2_o (by decide), e6, up2_s]
  have e29 : (s2 35 29).toInt = (σ 35 29).toInt + 1 := by rw [es2, up2_s]; exact addI rfl (by decide) (by omega) (by omega)
  have e43 : s2 43 = σ 43 := mk 43 (by decide) (by decide) (by omega) (by decide)
  have e36 : s2 36 = σ 36 := mk 36 (by decide) (by decide) (by omega) (by decide)
  have e37 : s2 37 = σ 37 := mk 37 (by decide) (by decide) (by omega) (by decide)
  have e38 : s2 38 = σ 38 := mk 38 (by decide) (by decide) (by omega) (by decide)
  have m4n : ∀ g, g ≠ (σ 35 29).toInt.toNat → m4 59 g = σ 59 g ∧ m4 60 g = σ 60 g ∧ m4 63 g = σ 63 g := fun g hg => by
    have a : ∀ k, 52 < k → k < 80 → k ≠ 53 → m1 k = σ k := fun k x y z => (hMZ.1 k (by omega) z).trans (hm k (by omega) y)
    refine ⟨?_, ?_, ?_⟩
    · rw [e4, up2_o (by decide), up2_o (by decide), up2_n hg, a 59 (by decide) (by decide) (by decide)]
    · rw [e4, up2_o (by decide), up2_n hg, up2_o (by decide), a 60 (by decide) (by decide) (by decide)]
    · rw [e4, up2_n hg, up2_o (by decide), up2_o (by decide), a 63 (by decide) (by decide) (by decide)]
  have m452 : ∀ k, k ≠ 59 → k ≠ 60 → k ≠ 63 → m4 k = m1 k := fun k a b c => by rw [e4, up2_ne c, up2_ne b, up2_ne a]
  have m4N : m4 59 (σ 35 29).toInt.toNat = r ∧ m4 63 (σ 35 29).toInt.toNat = σ 35 30 := ⟨by rw [e4, up2_o (by decide), up2_o (by decide), up2_s], by rw [e4, up2_s]⟩
  have mw : ∀ k, 53 < k → k < 80 → k ≠ 59 → k ≠ 60 → k ≠ 63 → m4 k = σ k := fun k a b c d e => fm.1 k (by omega) b (by omega) (by omega) c d e
  rcases hCH with ⟨v0, nt, ec1⟩ | hX
  · -- no ROOT
    have hr1 : r.toInt = -1 ∧ m5 = m4 := by
      rcases hcase with ⟨z1, -, z2⟩ | ⟨z, -⟩
      · exact ⟨z1, z2⟩
      · rcases hRT with ⟨a, -⟩ | ⟨a1, a2, a3, -⟩
        · exact absurd a z
        · exact absurd ((tk_ag hR (by omega)).mpr ((TkM_x k61).mp a3)) (nt _ (by omega))
    obtain ⟨hr1, hm5⟩ := hr1
    subst hm5
    have c33 : s2 33 = σ 33 := by
      rcases hoff with ⟨z, -⟩ | ⟨-, e⟩
      · rw [v0] at z
        exact absurd z (by decide)
      · rw [hmf 33 (by omega), es1, up2_ne (by decide), e, k0 33 (by decide), ec1, up2_ne (by decide)]
    have L : ∀ k, 1 ≤ k → (k < 35 ∨ 80 ≤ k) → k ≠ 21 → s2 k = σ k := fun k a b c => by
      by_cases z : k = 33
      · rw [z]; exact c33
      · rw [sc k (by omega) z b, ec1, up2_ne c]
    have o53 : ∀ j, j < 24 * (σ 35 29).toInt.toNat → s2 52 j = σ 52 j ∧ s2 53 j = σ 53 j := fun j hj => by
      rw [sm 52 (by decide) (by decide), sm 53 (by decide) (by decide)]
      exact fm.2.2 j hj
    refine Rel6.nx h6 ⟨hn.1, hlt⟩ e29 (fun j hj => ⟨⟨by rw [L 24 (by omega) (by omega) (by decide)], by rw [L 26 (by omega) (by omega) (by decide)]⟩, (o53 j hj).1, (o53 j hj).2, by rw [sm 54 (by decide) (by decide), mw 54 (by decide) (by decide) (by decide) (by decide) (by decide)], by rw [sm 56 (by decide) (by decide), mw 56 (by decide) (by decide) (by decide) (by decide) (by decide)]⟩)
      (fun j _ => ⟨by rw [L 24 (by omega) (by omega) (by decide)], by rw [L 25 (by omega) (by omega) (by decide)], by rw [L 26 (by omega) (by omega) (by decide)], by rw [L 28 (by omega) (by omega) (by decide)]⟩)
      (fun p hp => ?_) (fun g hg => ⟨fun k k1 k2 => by rw [L k (by omega) (by omega) (by omega)], fun k k1 k2 => ?_⟩) ?_ ?_ ?_ rs rb (fun q hq hk => ?_)
    · have u := hT.2.1 (24 * (σ 35 29).toInt.toNat + p) (by omega) (by omega)
      refine Or.inr ⟨?_, by rw [L 24 (by omega) (by omega) (by decide)]; exact u.1, by rw [L 26 (by omega) (by omega) (by decide)]; exact u.2.2.1⟩
      rw [sm 52 (by decide) (by decide), m452 52 (by decide) (by decide) (by decide), hz0 p hp]
      decide
    · obtain ⟨a1, a2, a3⟩ := m4n g hg
      have c : k = 59 ∨ k = 60 ∨ k = 61 ∨ k = 62 ∨ k = 63 ∨ k = 64 := by omega
      rcases c with c | c | c | c | c | c <;> subst c
      · rw [sm 59 (by decide) (by decide)]; exact a1
      · rw [sm 60 (by decide) (by decide)]; exact a2
      · rw [sm 61 (by decide) (by decide), mw 61 (by decide) (by decide) (by decide) (by decide) (by decide)]
      · rw [o62 g hg, mw 62 (by decide) (by decide) (by decide) (by decide) (by decide)]
      · rw [sm 63 (by decide) (by decide)]; exact a3
      · rw [sm 64 (by decide) (by decide), mw 64 (by decide) (by decide) (by decide) (by decide) (by decide)]
    · refine Or.inr ⟨by rw [sm 59 (by decide) (by decide), m4N.1]; exact hr1, fun k k1 k2 => ?_⟩
      rw [L k (by omega) (by omega) (by omega)]
      exact hT.2.2.2.1 _ (Nat.le_refl _) (by omega) k k1 k2
    · have g := hT.2.2.2.2.1
      unfold stC stM6 at g ⊢
      rw [L 8 (by omega) (by omega) (by decide), L 9 (by omega) (by omega) (by decide), L 10 (by omega) (by omega) (by decide), L 11 (by omega) (by omega) (by decide), s37, sm 65 (by decide) (by decide), sm 66 (by decide) (by decide), sm 67 (by decide) (by decide), fm.2.1, mw 65 (by decide) (by decide) (by decide) (by decide) (by decide), mw 66 (by decide) (by decide) (by decide) (by decide) (by decide), mw 67 (by decide) (by decide) (by decide) (by decide) (by decide)]
      exact g
    · exact XB.ex hT.2.2.2.2.2 (by rw [sm 54 (by decide) (by decide), mw 54 (by decide) (by decide) (by decide) (by decide) (by decide)])
    · unfold isC at hk
      rw [e36] at hk
      have ck := hK q hq hk
      have e80 : s2 (80 + q) = σ (80 + q) := L (80 + q) (by omega) (by omega) (by omega)
      have m : ∀ k, k = 41 ∨ k = 44 ∨ k = 45 ∨ k = 46 → s2 k = σ k := fun k hk => by rw [sm k (by omega) (by omega)]; exact fm.w (by omega) (by omega) (by omega) (by omega)
      unfold CK6 at ck ⊢
      rw [e80, e37, e38, e43, m 41 (by omega), m 44 (by omega), m 45 (by omega), m 46 (by omega), e29]
      obtain ⟨x1, x2, ⟨x3, x4, x5⟩, x6, x7, x8, x9, x10⟩ := ck
      exact ⟨x1, x2, ⟨x3, x4, by omega⟩, x6, x7, x8, x9, fun z => imp_nx hq e43 e29 o53 (x10 z)⟩
  · -- there is a ROOT
    obtain ⟨rq, s0, a1, a2, a3, a4, a5, xr, hrq, tk, hs0, hHI, hHO, hW, hP, hTX, hJ, ec1, ev⟩ := hX
    have hrm : 0 ≤ r.toInt ∧ r.toInt < 24 ∧ (TkM σ r.toInt.toNat ∧ ∀ q, q < r.toInt.toNat → ¬ TkM σ q) := by
      rcases hRT with ⟨-, a2⟩ | ⟨a1, a2, a3, a4⟩
      · exact absurd ((TkM_x k61).mpr ((tk_ag hR hrq).mp tk.1)) (a2 rq hrq)
      · exact ⟨a1, a2, (TkM_x k61).mp a3, fun q hq t => a4 q hq ((TkM_x k61).mpr t)⟩
    have er : r.toInt = (rq : Int) := by
      rcases Nat.lt_trichotomy r.toInt.toNat rq with z | z | z
      · exact absurd ((tk_ag hR (by omega)).mpr hrm.2.2.1) (tk.2 _ z)
      · omega
      · exact absurd ((tk_ag hR hrq).mp tk.1) (hrm.2.2.2 _ z)
    have hCL : CL6 m4 m5 r r.toInt.toNat v2 := by
      rcases hcase with ⟨z, -⟩ | ⟨-, z⟩
      · omega
      · exact z
    rw [show r.toInt.toNat = rq by omega] at hCL
    obtain ⟨b1, b2, b3, b4, x3, x7, x9, x11, hMA, hMB, hXR, hMP, hMX, hMD⟩ := hCL
    have em : m4 35 = σ 35 := fm.2.1
    rw [em] at hMB hMP hMX hMD
    have PF : ∀ p, p < 24 → PF6 σ a1 b1 (σ 35 29) p := fun p hp => pf6_of hI hlt hs0 hrq er tk hHI hHO fm hMA hp
    have x3e := hMA.2.2.2.2
    rw [em] at x3e
    have b30 : b1 35 30 = σ 0 9 := by rw [hMA.2.1 30 (by decide) (by decide) (by decide), em]; exact hS.1.symm
    rw [b30, ← mo_ag PF x3e] at hMB
    have sp := fun p (hp : p < 24) => spl6 hM.2.2.2.2.1 hK mo6_1 hW hp (PF p hp)
    have hSA : SAc a2 (σ 35 29) 24 = (x7, x9) := (sa_ag 24 (fun p hp => (sp p hp).1)).trans hMB.2.2.2.symm
    have bd := sa_bd 24 (Nat.le_refl _) (fun p hp => (sp p hp).2)
    have bd : (0 ≤ (SAc a2 (σ 35 29) 24).1.toInt ∧ (SAc a2 (σ 35 29) 24).1.toInt ≤ 1000000 * ((24 : Nat) : Int)) ∧ (-1000660000 * (SAc a2 (σ 35 29) 24).1.toInt ≤ (SAc a2 (σ 35 29) 24).2.toInt ∧ (SAc a2 (σ 35 29) 24).2.toInt ≤ 1000660000 * (SAc a2 (σ 35 29) 24).1.toInt) := bd
    rw [hSA] at bd
    have bd : (0 ≤ x7.toInt ∧ x7.toInt ≤ 1000000 * ((24 : Nat) : Int)) ∧ (-1000660000 * x7.toInt ≤ x9.toInt ∧ x9.toInt ≤ 1000660000 * x7.toInt) := bd
    obtain ⟨exr, bx, e31, e32⟩ := xr_ag hSA (show 0 ≤ x7.toInt ∧ x7.toInt ≤ 24000000 by have := bd.1; omega) bd.2 hP hXR hMP
    -- rows of the class, state by state
    have A1 : ∀ k, ¬ (12 ≤ k ∧ k ≤ 22) → k ≠ 25 → k ≠ 28 → a1 k = σ k := fun k h1 h2 h3 => by rw [hHO.1 k h1 h2 h3, hs0, up2_ne (by omega)]
    have A3 : ∀ k, k ≠ 27 → k ≠ 31 → k ≠ 32 → a3 k = a1 k := fun k h1 h2 h3 => by rw [hP.1 k h2 h3, hW.1 k h1]
    have A4 : ∀ k, ¬ (12 ≤ k ∧ k ≤ 22) → ¬ (24 ≤ k ∧ k ≤ 28) → k ≠ 31 → k ≠ 32 → a4 k = σ k := fun k h1 h2 h3 h4 => by rw [hTX.1 k (by omega) (by omega), A3 k (by omega) h3 h4, A1 k h1 (by omega) (by omega)]
    have a324 : a3 24 = σ 24 := (A3 24 (by decide) (by decide) (by decide)).trans (A1 24 (by omega) (by decide) (by decide))
    have a326 : a3 26 = σ 26 := (A3 26 (by decide) (by decide) (by decide)).trans (A1 26 (by omega) (by decide) (by decide))
    -- rows of the reference, state by state
    have B3 : ∀ k, 35 < k → k ≠ 55 → k ≠ 57 → k ≠ 58 → ¬ (68 ≤ k ∧ k ≤ 71) → k ≠ 60 → k ≠ 61 → k ≠ 64 → b3 k = m4 k := fun k a b c d e f g h => by rw [hMP.1 k f g h, hMB.1 k c, hMA.1 k (by omega) b c d e]
    have B35 : ∀ j, j ≠ 41 → j ≠ 43 → j ≠ 44 → b3 35 j = σ 35 j := fun j a b c => by rw [hMP.1 35 (by decide) (by decide) (by decide), hMB.1 35 (by decide), hMA.2.1 j a b c, em]
    have B4 : ∀ k, k ≠ 35 → k ≠ 41 → ¬ (44 ≤ k ∧ k ≤ 46) → k ≠ 54 → k ≠ 56 → ¬ (65 ≤ k ∧ k ≤ 67) → b4 k = b3 k := hMX.1
    have b3w : ∀ k, k = 38 ∨ k = 41 ∨ (43 ≤ k ∧ k ≤ 46) ∨ (65 ≤ k ∧ k ≤ 67) ∨ k = 54 ∨ k = 56 → b3 k = σ k := fun k hk => by
      rw [B3 k (by omega) (by omega) (by omega) (by omega) (by omega) (by omega) (by omega) (by omega)]
      by_cases z : k ≤ 58
      · exact fm.w (by omega) z (by omega) (by omega)
      · exact mw k (by omega) (by omega) (by omega) (by omega) (by omega)
    have b352 : ∀ j, j < 24 * (σ 35 29).toInt.toNat → b3 52 j = σ 52 j ∧ b3 53 j = σ 53 j ∧ b3 56 j = σ 56 j := fun j hj => by
      have g := fm.2.2 j hj
      rw [B3 52 (by decide) (by decide) (by decide) (by decide) (by omega) (by decide) (by decide) (by decide), B3 53 (by decide) (by decide) (by decide) (by decide) (by omega) (by decide) (by decide) (by decide), b3w 56 (by omega)]
      exact ⟨g.1, g.2, rfl⟩
    have fb : b3 71 = b1 71 ∧ b3 58 = b1 58 ∧ b3 55 = b1 55 := ⟨(hMP.1 71 (by decide) (by decide) (by decide)).trans (hMB.1 71 (by decide)), (hMP.1 58 (by decide) (by decide) (by decide)).trans (hMB.1 58 (by decide)), (hMP.1 55 (by decide) (by decide) (by decide)).trans (hMB.1 55 (by decide))⟩
    have NR : ∀ p, p < 24 → NR6 σ a4 b4 (σ 35 29) p := fun p hp => by
      have u := hT.2.1 (24 * (σ 35 29).toInt.toNat + p) (by omega) (by omega)
      exact nr6_of (PF p hp) hp ⟨A3 25 (by decide) (by decide) (by decide), A3 28 (by decide) (by decide) (by decide)⟩ fb ⟨by show UNK (a3 24 _); rw [a324]; exact u.1, by show UNK (a3 26 _); rw [a326]; exact u.2.2.1⟩ exr bx hTX hMX
    have old4 : ∀ j, (∀ p, p < 24 → j ≠ 24 * (σ 35 29).toInt.toNat + p) → a4 24 j = σ 24 j ∧ a4 26 j = σ 26 j := fun j hj => by
      have g := hTX.2.1 j hj
      rw [g.1, g.2, a324, a326]
      exact ⟨rfl, rfl⟩
    obtain ⟨CA, st5⟩ := ca6_of hR hT hK hn rfl ⟨fun k hk => A4 k (by omega) (by omega) (by omega) (by omega), fun j hj => (old4 j (fun p hp => by omega)).2⟩ ⟨fun k hk => b3w k (by omega), fun j hj => B35 j (by omega) (by omega) (by omega), b352⟩ hS.2 NR hJ hMX
    -- the rows at the end
    have c1k : ∀ k, k ≠ 29 → k ≠ 30 → k ≠ 34 → c1 k = a5 k := fun k h1 h2 h3 => by rw [ec1, up2_ne h3, up2_ne h2, up2_ne h1]
    have A5 : ∀ k, ¬ (8 ≤ k ∧ k ≤ 11) → ¬ (18 ≤ k ∧ k ≤ 20) → ¬ (80 ≤ k ∧ k < 104) → a5 k = a4 k := hJ.1
    have f24 : s2 24 = a4 24 := by rw [sc 24 (by decide) (by decide) (by omega), c1k 24 (by decide) (by decide) (by decide), A5 24 (by omega) (by omega) (by omega)]
    have f26 : s2 26 = a4 26 := by rw [sc 26 (by decide) (by decide) (by omega), c1k 26 (by decide) (by decide) (by decide), A5 26 (by omega) (by omega) (by omega)]
    have f25 : s2 25 = a1 25 := by rw [sc 25 (by decide) (by decide) (by omega), c1k 25 (by decide) (by decide) (by decide), A5 25 (by omega) (by omega) (by omega), hTX.1 25 (by decide) (by decide), A3 25 (by decide) (by decide) (by decide)]
    have f28 : s2 28 = a1 28 := by rw [sc 28 (by decide) (by decide) (by omega), c1k 28 (by decide) (by decide) (by decide), A5 28 (by omega) (by omega) (by omega), hTX.1 28 (by decide) (by decide), A3 28 (by decide) (by decide) (by decide)]
    have g5 : ∀ k, k ≠ 35 → k ≠ 62 → k ≠ 52 → k ≠ 53 → s2 k = b4 k := fun k a b c d => by rw [sm k a b, hMD.1 k c d]
    have f54 : s2 54 = b4 54 := g5 54 (by decide) (by decide) (by decide) (by decide)
    have f56 : s2 56 = b4 56 := g5 56 (by decide) (by decide) (by decide) (by decide)
    have o52 : ∀ j, j < 24 * (σ 35 29).toInt.toNat → s2 52 j = σ 52 j ∧ s2 53 j = σ 53 j := fun j hj => by
      have g := hMD.2.1 j (fun p hp => by omega)
      rw [sm 52 (by decide) (by decide), sm 53 (by decide) (by decide), g.1, g.2, B4 52 (by decide) (by decide) (by omega) (by decide) (by decide) (by omega), B4 53 (by decide) (by decide) (by omega) (by decide) (by decide) (by omega)]
      exact ⟨(b352 j hj).1, (b352 j hj).2.1⟩
    have oX : ∀ j, (∀ p, p < 24 → j ≠ 24 * (σ 35 29).toInt.toNat + p) → s2 54 j = σ 54 j ∧ s2 56 j = σ 56 j := fun j hj => by
      have g := hMX.2.2.1 j hj
      rw [f54, f56, g.1, g.2, b3w 54 (by omega), b3w 56 (by omega)]
      exact ⟨rfl, rfl⟩
    have n52 : ∀ p, p < 24 → s2 52 (24 * (σ 35 29).toInt.toNat + p) = b4 71 p ∧ (((b4 71 p).toInt ≠ 0 ∧ ¬ UNK (rw6 b4 55 (σ 35 29) p) ∧ s2 53 (24 * (σ 35 29).toInt.toNat + p) = 1) ∨ (((b4 71 p).toInt = 0 ∨ UNK (rw6 b4 55 (σ 35 29) p)) ∧ s2 53 (24 * (σ 35 29).toInt.toNat + p) = 0)) := fun p hp => by
      rw [sm 52 (by decide) (by decide), sm 53 (by decide) (by decide)]
      exact hMD.2.2 p hp
    refine Rel6.nx h6 ⟨hn.1, hlt⟩ e29 (fun j hj => ?_) (fun j hj => ?_) (fun p hp => ?_) (fun g hg => ⟨fun k k1 k2 => ?_, fun k k1 k2 => ?_⟩) ?_ ?_ ?_ rs rb (fun q hq hk => ?_)
    · have g := old4 j (fun p hp => by omega)
      have x := oX j (fun p hp => by omega)
      rw [f24, f26]
      exact ⟨g, (o52 j hj).1, (o52 j hj).2, x.1, x.2⟩
    · have g := old4 j (fun p hp => by omega)
      have y := hHO.2.1 j (fun p hp => by omega)
      rw [f24, f25, f26, f28, y.1, y.2, hs0, up2_ne (by decide), up2_ne (by decide)]
      exact ⟨g.1, rfl, g.2, rfl⟩
    · obtain ⟨q1, q2⟩ := n52 p hp
      unfold TR6
      rw [q1, f24, f26, f54, f56]
      rcases NR p hp with ⟨-, n2, n3, -, n5⟩ | ⟨n1, n2, n3⟩
      · refine Or.inl ⟨n2, n3, ?_⟩
        rcases n5 with ⟨n6, n7, -⟩ | ⟨n6, n7⟩
        · rcases q2 with ⟨-, -, q3⟩ | ⟨q3, -⟩
          · exact Or.inl ⟨by rw [q3]; decide, n7⟩
          · rcases q3 with q3 | q3
            · exact absurd q3 n2
            · exact absurd q3 n6
        · rcases q2 with ⟨-, q3, -⟩ | ⟨-, q3⟩
          · exact absurd n6 q3
          · exact Or.inr ⟨by rw [q3]; decide, n7⟩
      · exact Or.inr ⟨n1, n2, n3⟩
    · have c : k = 29 ∨ k = 30 ∨ k = 31 ∨ k = 32 ∨ k = 33 ∨ k = 34 := by omega
      have q29 : ∀ k, k = 29 ∨ k = 30 ∨ k = 34 → a5 k = σ k := fun k hk => by rw [A5 k (by omega) (by omega) (by omega), A4 k (by omega) (by omega) (by omega) (by omega)]
      rcases c with c | c | c | c | c | c <;> subst c
      · rw [sc 29 (by decide) (by decide) (by omega), ec1, up2_o (by decide), up2_o (by decide), up2_n hg, q29 29 (by omega)]
      · rw [sc 30 (by decide) (by decide) (by omega), ec1, up2_o (by decide), up2_n hg, up2_o (by decide), q29 30 (by omega)]
      · rw [sc 31 (by decide) (by decide) (by omega), c1k 31 (by decide) (by decide) (by decide), A5 31 (by omega) (by omega) (by omega), hTX.1 31 (by decide) (by decide), (hP.2.1 g hg).1, hW.1 31 (by decide), A1 31 (by omega) (by decide) (by decide)]
      · rw [sc 32 (by decide) (by decide) (by omega), c1k 32 (by decide) (by decide) (by decide), A5 32 (by omega) (by omega) (by omega), hTX.1 32 (by decide) (by decide), (hP.2.1 g hg).2, hW.1 32 (by decide), A1 32 (by omega) (by decide) (by decide)]
      · have z : c2 33 = σ 33 := by rw [k0 33 (by decide), c1k 33 (by decide) (by decide) (by decide), A5 33 (by omega) (by omega) (by omega), A4 33 (by omega) (by omega) (by decide) (by decide)]
        rw [hmf 33 (by omega), es1, up2_ne (by decide)]
        rcases hoff with ⟨-, e⟩ | ⟨-, e⟩
        · rw [e, up2_n hg, z]
        · rw [e, z]
      · rw [sc 34 (by decide) (by decide) (by omega), ec1, up2_n hg, up2_o (by decide), up2_o (by decide), q29 34 (by omega)]
    · obtain ⟨y1, y2, y3⟩ := m4n g hg
      have b59 : ∀ k, k = 59 ∨ k = 62 ∨ k = 63 → b4 k = m4 k := fun k hk => by rw [B4 k (by omega) (by omega) (by omega) (by omega) (by omega) (by omega), B3 k (by omega) (by omega) (by omega) (by omega) (by omega) (by omega) (by omega) (by omega)]
      have b60 : ∀ k, k = 60 ∨ k = 61 ∨ k = 64 → b4 k = b3 k ∧ b2 k = m4 k := fun k hk => ⟨B4 k (by omega) (by omega) (by omega) (by omega) (by omega) (by omega), by rw [hMB.1 k (by omega), hMA.1 k (by omega) (by omega) (by omega) (by omega) (by omega)]⟩
      have p6 := hMP.2.1 g hg
      have c : k = 59 ∨ k = 60 ∨ k = 61 ∨ k = 62 ∨ k = 63 ∨ k = 64 := by omega
      rcases c with c | c | c | c | c | c <;> subst c
      · rw [g5 59 (by decide) (by decide) (by decide) (by decide), b59 59 (by omega)]; exact y1
      · rw [g5 60 (by decide) (by decide) (by decide) (by decide), (b60 60 (by omega)).1, p6.1, (b60 60 (by omega)).2]; exact y2
      · rw [g5 61 (by decide) (by decide) (by decide) (by decide), (b60 61 (by omega)).1, p6.2.1, (b60 61 (by omega)).2, mw 61 (by decide) (by decide) (by decide) (by decide) (by decide)]
      · rw [o62 g hg, hMD.1 62 (by decide) (by decide), b59 62 (by omega), mw 62 (by decide) (by decide) (by decide) (by decide) (by decide)]
      · rw [g5 63 (by decide) (by decide) (by decide) (by decide), b59 63 (by omega)]; exact y3
      · rw [g5 64 (by decide) (by decide) (by decide) (by decide), (b60 64 (by omega)).1, p6.2.2, (b60 64 (by omega)).2, mw 64 (by decide) (by decide) (by decide) (by decide) (by decide)]
    · -- the paper's rows of the hour
      have b59 : ∀ k, k = 59 ∨ k = 63 → b4 k = m4 k := fun k hk => by rw [B4 k (by omega) (by omega) (by omega) (by omega) (by omega) (by omega), B3 k (by omega) (by omega) (by omega) (by omega) (by omega) (by omega) (by omega) (by omega)]
      have b60 : ∀ k, k = 60 ∨ k = 61 ∨ k = 64 → b4 k = b3 k := fun k hk => B4 k (by omega) (by omega) (by omega) (by omega) (by omega) (by omega)
      have k59 : s2 59 (σ 35 29).toInt.toNat = r := by rw [g5 59 (by decide) (by decide) (by decide) (by decide), b59 59 (by omega)]; exact m4N.1
      have k63 : s2 63 (σ 35 29).toInt.toNat = σ 35 30 := by rw [g5 63 (by decide) (by decide) (by decide) (by decide), b59 63 (by omega)]; exact m4N.2
      have k60 : s2 60 (σ 35 29).toInt.toNat = v2 := by rw [g5 60 (by decide) (by decide) (by decide) (by decide), b60 60 (by omega)]; exact hMP.2.2.1
      have k61' : s2 61 (σ 35 29).toInt.toNat = b3 61 (σ 35 29).toInt.toNat := by rw [g5 61 (by decide) (by decide) (by decide) (by decide), b60 61 (by omega)]
      have k64 : s2 64 (σ 35 29).toInt.toNat = b3 64 (σ 35 29).toInt.toNat := by rw [g5 64 (by decide) (by decide) (by decide) (by decide), b60 64 (by omega)]
      have q29 : s2 29 (σ 35 29).toInt.toNat = nI rq := by rw [sc 29 (by decide) (by decide) (by omega), ec1, up2_o (by decide), up2_o (by decide), up2_s]
      have q30 : s2 30 (σ 35 29).toInt.toNat = v := by rw [sc 30 (by decide) (by decide) (by omega), ec1, up2_o (by decide), up2_s]; exact ev.symm
      have q34 : s2 34 (σ 35 29).toInt.toNat = σ 0 9 := by rw [sc 34 (by decide) (by decide) (by omega), ec1, up2_s]
      have q31 : s2 31 = a3 31 := by rw [sc 31 (by decide) (by decide) (by omega), c1k 31 (by decide) (by decide) (by decide), A5 31 (by omega) (by omega) (by omega), hTX.1 31 (by decide) (by decide)]
      have q32 : s2 32 = a3 32 := by rw [sc 32 (by decide) (by decide) (by omega), c1k 32 (by decide) (by decide) (by decide), A5 32 (by omega) (by omega) (by omega), hTX.1 32 (by decide) (by decide)]
      have hLV := lv_of (hr := σ 35 29) hR hE hn rfl hn.1 (Int.le_refl _)
      obtain ⟨m, z1, z2, z3⟩ := hHI _ _ _ _ (LV.u21 hs0 hLV)
      have z216 : s0 21 6 = 0 := by rw [hs0, up2_s]
      have a216 : v = a1 21 6 := by
        rw [ev, A5 21 (by omega) (by omega) (by omega), hTX.1 21 (by decide) (by decide), A3 21 (by decide) (by decide) (by decide)]
      rw [z216, ← a216] at z3
      have nq : ¬ QC s0 a1 rq := by
        obtain ⟨n', v', e', -, -, -, -, y5, -⟩ := z1
        rintro (y | y)
        · exact y ((tk_21 hs0).mpr tk.1)
        · omega
      have vp := (cnt_p nq 24 (Nat.le_refl _) z3).2 hrq
      have q33 : s2 33 (σ 35 29).toInt.toNat = wv := by
        rw [hmf 33 (by omega), es1, up2_ne (by decide)]
        rcases hoff with ⟨-, e⟩ | ⟨e, -⟩
        · rw [e, up2_s, ← s012, ← s33]
          exact hL2.2.2
        · exfalso; omega
      refine Or.inl ⟨by rw [k59]; omega, by rw [q29, k59]; exact i32_ext (by rw [nI_T rq (by omega)]; exact er.symm), by rw [q30, k60]; exact hv, by rw [q31, k64]; exact e31, by rw [q32, k61']; exact e32, by rw [q33, s62], by rw [q34, k63]; exact hS.1⟩
    · have g : stC s2 = stC a5 := by
        unfold stC
        rw [sc 8 (by decide) (by decide) (by omega), sc 9 (by decide) (by decide) (by omega), sc 10 (by decide) (by decide) (by omega), sc 11 (by decide) (by decide) (by omega), c1k 8 (by decide) (by decide) (by decide), c1k 9 (by decide) (by decide) (by decide), c1k 10 (by decide) (by decide) (by decide), c1k 11 (by decide) (by decide) (by decide)]
      have g2 : stM6 s2 = stM6 b4 := by
        unfold stM6
        rw [s37, hMD.1 35 (by decide) (by decide), g5 65 (by decide) (by decide) (by decide) (by decide), g5 66 (by decide) (by decide) (by decide) (by decide), g5 67 (by decide) (by decide) (by decide) (by decide)]
      rw [g, g2]
      exact st5
    · intro j
      rw [f54]
      by_cases z : ∃ p, p < 24 ∧ j = 24 * (σ 35 29).toInt.toNat + p
      · obtain ⟨p, hp, ej⟩ := z
        rw [ej]
        rcases NR p hp with ⟨-, -, -, n4, -⟩ | ⟨n1, -⟩
        · exact n4
        · obtain ⟨T, -, -, m7⟩ := hMX.2.2.2.2
          have c71 : b4 71 = b3 71 := B4 71 (by decide) (by decide) (by omega) (by decide) (by decide) (by omega)
          rw [c71] at n1
          rcases m7 p hp with ⟨-, y, -⟩ | ⟨y, -⟩
          · have y : b4 54 (24 * (σ 35 29).toInt.toNat + p) = b3 54 (24 * (σ 35 29).toInt.toNat + p) := y
            rw [y, b3w 54 (by omega)]
            exact hT.2.2.2.2.2 _
          · exact absurd n1 y
      · rw [(hMX.2.2.1 j (fun p hp e => z ⟨p, hp, e⟩)).1, b3w 54 (by omega)]
        exact hT.2.2.2.2.2 j
    · unfold isC at hk
      rw [e36] at hk
      have ck := hK q hq hk
      obtain ⟨y1, y2, y3, y4, y5⟩ := CA q hq hk
      have e80 : s2 (80 + q) = a5 (80 + q) := by rw [sc (80 + q) (by omega) (by omega) (by omega), c1k (80 + q) (by omega) (by omega) (by omega)]
      have k80 : ∀ j, j < 7 ∨ j = 8 → a5 (80 + q) j = σ (80 + q) j := fun j hj => by rw [hJ.2.1 q j hq hj, A4 (80 + q) (by omega) (by omega) (by omega) (by omega)]
      obtain ⟨x1, x2, ⟨x3', x4, x5⟩, -, -, -, -, x10⟩ := ck
      unfold CK6
      rw [e80, k80 2 (by omega), k80 3 (by omega), k80 8 (by omega), e37, e38, e43, g5 41 (by decide) (by decide) (by decide) (by decide), g5 44 (by decide) (by decide) (by decide) (by decide), g5 45 (by decide) (by decide) (by decide) (by decide), g5 46 (by decide) (by decide) (by decide) (by decide), e29]
      refine ⟨x1, x2, ⟨x3', x4, by omega⟩, y1, y2, y3, y4, fun z => ?_⟩
      rcases y5 with y5 | ⟨y5, y6, y7⟩
      · rw [y5] at z ⊢
        exact imp_nx hq e43 e29 o52 (x10 z)
      · rw [y5]
        obtain ⟨q1, q2⟩ := n52 q hq
        refine ⟨⟨by rw [e43]; exact x5, hn.1, by omega, by rw [q1]; exact y6⟩, ?_⟩
        rcases q2 with ⟨-, -, q3⟩ | ⟨q3, -⟩
        · rw [q3]; decide
        · rcases q3 with q3 | q3
          · exact absurd q3 y6
          · exact absurd q3 y7
