/-! ===== steps and drifts, as the reference finds them ===== -/
def ZS6 (σ s : SI) (q : Nat) (h p m : Int32) : Prop :=
  (∀ k, k ≠ 35 → k ≠ 41 → k ≠ 45 → ¬ (65 ≤ k ∧ k ≤ 67) → s k = σ k) ∧ (∀ j, j ≠ 37 → s 35 j = σ 35 j) ∧ (∀ j, j ≠ q → s 41 j = σ 41 j ∧ s 45 j = σ 45 j) ∧ s 41 q = 1 ∧ s 45 q = σ 45 q + 1 ∧ stM6 s = ad6 (stM6 σ) h p m
theorem zs_n {σ s1 s2 : SI} {q : Nat} {h p m : Int32} (e1 : s1 = up2 σ 41 q 1) (e2 : s2 = up2 s1 45 q (s1 45 q + 1)) (c : 100 ≤ (σ 35 37).toInt) : ZS6 σ s2 q h p m := by
  have g : ∀ k, k ≠ 41 → k ≠ 45 → s2 k = σ k := fun k a b => by rw [e2, up2_ne b, e1, up2_ne a]
  refine ⟨fun k a b c d => g k b c, fun j _ => by rw [g 35 (by decide) (by decide)], fun j hj => ⟨by rw [e2, up2_o (by decide), e1, up2_n hj], by rw [e2, up2_n hj, e1, up2_o (by decide)]⟩, by rw [e2, up2_o (by decide), e1, up2_s], by rw [e2, up2_s, e1, up2_o (by decide)], ?_⟩
  have e : stM6 s2 = stM6 σ := by
    unfold stM6
    rw [g 35 (by decide) (by decide), g 65 (by decide) (by decide), g 66 (by decide) (by decide), g 67 (by decide) (by decide)]
  rw [e]
  unfold ad6
  rw [if_neg (by show ¬ (0 ≤ (σ 35 37).toInt ∧ (σ 35 37).toInt < 100); omega)]
theorem zs_y {σ s1 s2 s3 s4 s5 s6 : SI} {q : Nat} {p m : Int32} (e1 : s1 = up2 σ 41 q 1) (e2 : s2 = up2 s1 45 q (s1 45 q + 1)) (e3 : s3 = up2 s2 65 (s2 35 37).toInt.toNat (s2 35 29 - 1)) (e4 : s4 = up2 s3 66 (s3 35 37).toInt.toNat p) (e5 : s5 = up2 s4 67 (s4 35 37).toInt.toNat m) (e6 : s6 = up2 s5 35 37 (s5 35 37 + 1)) (c : 0 ≤ (σ 35 37).toInt ∧ (σ 35 37).toInt < 100) : ZS6 σ s6 q (σ 35 29 - 1) p m := by
  have g2 : ∀ k, k ≠ 41 → k ≠ 45 → s2 k = σ k := fun k a b => by rw [e2, up2_ne b, e1, up2_ne a]
  have a2 : s2 35 = σ 35 := g2 35 (by decide) (by decide)
  have a3 : s3 35 = σ 35 := by rw [e3, up2_ne (by decide)]; exact a2
  have a4 : s4 35 = σ 35 := by rw [e4, up2_ne (by decide)]; exact a3
  have a5 : s5 35 = σ 35 := by rw [e5, up2_ne (by decide)]; exact a4
  rw [a2] at e3
  rw [a3] at e4
  rw [a4] at e5
  rw [a5] at e6
  have g6 : ∀ k, k ≠ 35 → ¬ (65 ≤ k ∧ k ≤ 67) → s6 k = s2 k := fun k a b => by rw [e6, up2_ne a, e5, up2_ne (by omega), e4, up2_ne (by omega), e3, up2_ne (by omega)]
  refine ⟨fun k a b c d => (g6 k a d).trans (g2 k b c), fun j hj => by rw [e6, up2_n hj, a5], fun j hj => ⟨by rw [g6 41 (by decide) (by omega), e2, up2_o (by decide), e1, up2_n hj], by rw [g6 45 (by decide) (by omega), e2, up2_n hj, e1, up2_o (by decide)]⟩, by rw [g6 41 (by decide) (by omega), e2, up2_o (by decide), e1, up2_s], by rw [g6 45 (by decide) (by omega), e2, up2_s, e1, up2_o (by decide)], ?_⟩
  have b0 : s6 35 37 = σ 35 37 + 1 := by rw [e6]; exact up2_s
  have b1 : s6 65 = fun j => if j = (σ 35 37).toInt.toNat then σ 35 29 - 1 else σ 65 j := by rw [e6, up2_ne (by decide), e5, up2_ne (by decide), e4, up2_ne (by decide), e3, up2_at, g2 65 (by decide) (by decide)]
  have b2 : s6 66 = fun j => if j = (σ 35 37).toInt.toNat then p else σ 66 j := by rw [e6, up2_ne (by decide), e5, up2_ne (by decide), e4, up2_at, e3, up2_ne (by decide), g2 66 (by decide) (by decide)]
  have b3 : s6 67 = fun j => if j = (σ 35 37).toInt.toNat then m else σ 67 j := by rw [e6, up2_ne (by decide), e5, up2_at, e4, up2_ne (by decide), e3, up2_ne (by decide), g2 67 (by decide) (by decide)]
  unfold stM6 ad6
  rw [b0, b1, b2, b3, if_pos c]
section LOOKM
variable {σ s s1 : SI} {q n : Nat} {lo t : Int} {f : Int → Int32}
theorem mga_y {x5 y5 z v : Int32} {x3 : Int64} (e6 : y5 = x5 + 1) (e5 : x5 = (MG f lo n).1) (e3 : x3 = (MG f lo n).2.1) (ht : t = lo + (n : Int)) (hz : z = f t) (hx : (f t).toInt ≠ 2000000000) (ev : v = if 0 ≤ z.toInt then z else -z) : y5 = (MG f lo (n + 1)).1 ∧ x3 + v.toInt64 = (MG f lo (n + 1)).2.1 := by
  rw [e6]
  have ev : v = ab6 z := ev
  rw [MG_s (by rw [← ht]; exact hx), e5, e3, ev, hz, ht]
  exact ⟨rfl, rfl⟩
theorem mga_n {x5 : Int32} {x3 : Int64} (e5 : x5 = (MG f lo n).1) (e3 : x3 = (MG f lo n).2.1) (ht : t = lo + (n : Int)) (hx : (f t).toInt = 2000000000) : x5 = (MG f lo (n + 1)).1 ∧ x3 = (MG f lo (n + 1)).2.1 := by
  rw [MG_n (by rw [← ht]; exact hx)]
  exact ⟨e5, e3⟩
theorem um_m0 {x5 : Int32} {rc h : Int} (e5 : x5 = (MGr6 f rc h).1) (c : x5.toInt = 0) : (0 : Int64) = UM6 f rc h := by
  rw [e5] at c
  unfold UM6
  rw [if_pos c]
theorem um_m1 {x5 : Int32} {x3 : Int64} {rc h : Int} (e5 : x5 = (MGr6 f rc h).1) (e3 : x3 = (MGr6 f rc h).2.1) (c : x5.toInt ≠ 0) : x3 / x5.toInt64 = UM6 f rc h := by
  rw [e5] at c
  unfold UM6
  rw [if_neg c, e5, e3]
def LS6 (σ s : SI) (q : Nat) (m : Int32) : Prop :=
  (∀ k, k ≠ 35 → k ≠ 41 → k ≠ 44 → k ≠ 45 → ¬ (65 ≤ k ∧ k ≤ 67) → s k = σ k) ∧ (∀ j, j ≠ 37 → s 35 j = σ 35 j) ∧ (∀ j, j ≠ q → s 41 j = σ 41 j ∧ s 44 j = σ 44 j ∧ s 45 j = σ 45 j) ∧
  JW6 (pM σ q) (σ 38 q).toInt (σ 35 29) q (σ 35 31) m (σ 41 q) (σ 44 q) (σ 45 q) (stM6 σ) (s 41 q) (s 44 q) (s 45 q) (stM6 s)
theorem pl_nI {pl : Int32} (hp : pl.toInt.toNat = q) (h0 : 0 ≤ pl.toInt ∧ pl.toInt < 24) : pl = nI q := i32_ext (by rw [nI_T q (by omega)]; omega)
theorem ls_y {pl m x8 : Int32} (hp : pl.toInt.toNat = q) (h0 : 0 ≤ pl.toInt ∧ pl.toInt < 24) (hk : KM σ) (hsu : (σ 44 q).toInt = (σ 35 29).toInt - 1 → isMp σ q ((σ 35 29).toInt - 1)) (c : (σ 44 q).toInt = (σ 35 29).toInt - 1) (e8 : x8 = σ 56 (24 * ((σ 35 29).toInt - 1).toNat + q)) (st : ST6 x8 m) (z : ZS6 σ s q (σ 35 29 - 1) pl x8) : LS6 σ s q m := by
  have hm := hsu c
  have e := pM_v hm
  rw [← e8] at e
  have ny := pM_y hk hm
  obtain ⟨z1, z2, z3, z4, z5, z6⟩ := z
  rw [pl_nI hp h0, ← e] at z6
  rw [← e] at st
  have e44 : s 44 = σ 44 := z1 44 (by decide) (by decide) (by decide) (by omega)
  exact ⟨fun k a b c d e => z1 k a b d e, z2, fun j hj => ⟨(z3 j hj).1, by rw [e44], (z3 j hj).2⟩, Or.inl ⟨c, ⟨ny, st⟩, z4, by rw [e44], z5, z6⟩⟩
theorem ls_n {m x8 : Int32} (hsu : (σ 44 q).toInt = (σ 35 29).toInt - 1 → isMp σ q ((σ 35 29).toInt - 1)) (c : (σ 44 q).toInt = (σ 35 29).toInt - 1) (e8 : x8 = σ 56 (24 * ((σ 35 29).toInt - 1).toNat + q)) (st : ¬ ST6 x8 m) : LS6 σ σ q m := by
  have e := pM_v (hsu c)
  rw [← e8] at e
  rw [← e] at st
  exact ⟨fun _ _ _ _ _ _ => rfl, fun _ _ => rfl, fun _ _ => ⟨rfl, rfl, rfl⟩, Or.inr (Or.inl ⟨c, fun h => st h.2, rfl, rfl, rfl, rfl⟩)⟩
theorem ls_l {m va : Int32} {x6 : Int64} (hb : -30000 ≤ m.toInt ∧ m.toInt ≤ 30000) (c : (σ 44 q).toInt ≠ (σ 35 29).toInt - 1) (am : va = if 0 ≤ m.toInt then m else -m) (e6 : x6 = UM6 (pM σ q) (σ 38 q).toInt (σ 35 29).toInt) (cl : ((σ 35 31).toInt64 * (x6 + 1)).toInt < va.toInt) (e : s = up2 σ 44 q (σ 35 29)) : LS6 σ s q m := by
  rw [e6, abv hb am] at cl
  have g : ∀ k, k ≠ 44 → s k = σ k := fun k hk => by rw [e]; exact up2_ne hk
  refine ⟨fun k a b c d e => g k c, fun j _ => by rw [g 35 (by decide)], fun j hj => ⟨by rw [g 41 (by decide)], by rw [e]; exact up2_n hj, by rw [g 45 (by decide)]⟩, Or.inr (Or.inr (Or.inl ⟨c, cl, by rw [g 41 (by decide)], by rw [e]; exact up2_s, by rw [g 45 (by decide)], ?_⟩))⟩
  unfold stM6
  rw [g 35 (by decide), g 65 (by decide), g 66 (by decide), g 67 (by decide)]
theorem ls_k {m va : Int32} {x6 : Int64} (hb : -30000 ≤ m.toInt ∧ m.toInt ≤ 30000) (c : (σ 44 q).toInt ≠ (σ 35 29).toInt - 1) (am : va = if 0 ≤ m.toInt then m else -m) (e6 : x6 = UM6 (pM σ q) (σ 38 q).toInt (σ 35 29).toInt) (cl : va.toInt ≤ ((σ 35 31).toInt64 * (x6 + 1)).toInt) : LS6 σ σ q m := by
  rw [e6, abv hb am] at cl
  exact ⟨fun _ _ _ _ _ _ => rfl, fun _ _ => rfl, fun _ _ => ⟨rfl, rfl, rfl⟩, Or.inr (Or.inr (Or.inr ⟨c, by show ¬ (_ < _); omega, rfl, rfl, rfl, rfl⟩))⟩
theorem LS6.pm {m : Int32} (h : LS6 σ s q m) : pM s q = pM σ q ∧ (∀ t, isMp s q t ↔ isMp σ q t) ∧ s 56 = σ 56 ∧ s 35 29 = σ 35 29 := by
  have g : ∀ k, 46 < k → k < 65 → s k = σ k := fun k a b => h.1 k (by omega) (by omega) (by omega) (by omega) (by omega)
  have e43 : s 43 = σ 43 := h.1 43 (by decide) (by decide) (by decide) (by decide) (by omega)
  have e29 : s 35 29 = σ 35 29 := h.2.1 29 (by decide)
  refine ⟨pM_ex e43 e29 (g 52 (by decide) (by decide)) (g 53 (by decide) (by decide)) (g 56 (by decide) (by decide)), fun t => ?_, g 56 (by decide) (by decide), e29⟩
  unfold isMp isXp
  rw [e43, e29, g 52 (by decide) (by decide), g 53 (by decide) (by decide)]
/-! a drift, backwards from what was MISSED last -/
def nx6 (f : Int → Int32) (h : Int) (m : Int32) (u : Int) : Int32 := if u = h then m else f u
def DL6 (f : Int → Int32) (h : Int) (m : Int32) (t : Int) (x8 x9 : Int32) : Prop :=
  (x8.toInt = 1 ∧ m.toInt ≠ 0 ∧ x9 = nx6 f h m (t + 1) ∧ (-30000 ≤ x9.toInt ∧ x9.toInt ≤ 30000) ∧ sg6 x9 m ∧ ∀ u, t < u → u < h → D16 (f u) (nx6 f h m (u + 1))) ∨ (x8.toInt = 0 ∧ (m.toInt = 0 ∨ ∃ u, h - 3 ≤ u ∧ u < h ∧ ¬ D16 (f u) (nx6 f h m (u + 1))))
theorem DL6.st {h : Int} {m x8 : Int32} (hb : -30000 ≤ m.toInt ∧ m.toInt ≤ 30000) (h8 : (x8.toInt = 1 ∧ m.toInt ≠ 0) ∨ (x8.toInt = 0 ∧ m.toInt = 0)) (ht : t = h - 1) : DL6 f h m t x8 m := by
  rcases h8 with ⟨a, b⟩ | ⟨a, b⟩
  · exact Or.inl ⟨a, b, by unfold nx6; rw [if_pos (by omega)], hb, by show (0 < m.toInt ∧ 0 < m.toInt) ∨ (m.toInt < 0 ∧ m.toInt < 0); omega, fun u h1 h2 => by omega⟩
  · exact Or.inr ⟨a, Or.inl b⟩
theorem DL6.go {h t' : Int} {m x8 x9 y8 y9 : Int32} (hm : MR6 f) (H : DL6 f h m t x8 x9) (c : x8.toInt ≠ 0) (h1 : h - 3 ≤ t) (h2 : t < h) (a : (y8.toInt = 1 ∧ D16 (f t) x9) ∨ (y8.toInt = 0 ∧ ¬ D16 (f t) x9)) (b : (y8.toInt ≠ 0 → y9 = f t) ∧ (y8.toInt = 0 → y9 = x9)) (ht : t' = t - 1) : DL6 f h m t' y8 y9 := by
  rcases H with ⟨q1, q2, q3, q4, q5, q6⟩ | ⟨q1, -⟩
  · rcases a with ⟨a1, a2⟩ | ⟨a1, a2⟩
    · have e9 := b.1 (by omega)
      have r := (hm t).resolve_left a2.1
      have s1 := a2.2.2.1
      refine Or.inl ⟨a1, q2, ?_, by rw [e9]; exact r, ?_, fun u u1 u2 => ?_⟩
      · unfold nx6
        rw [if_neg (by omega), e9, show t' + 1 = t by omega]
      · rw [e9]
        show (0 < (f t).toInt ∧ 0 < m.toInt) ∨ ((f t).toInt < 0 ∧ m.toInt < 0)
        have s1 : (0 < (f t).toInt ∧ 0 < x9.toInt) ∨ ((f t).toInt < 0 ∧ x9.toInt < 0) := s1
        have q5 : (0 < x9.toInt ∧ 0 < m.toInt) ∨ (x9.toInt < 0 ∧ m.toInt < 0) := q5
        omega
      · by_cases z : u = t
        · subst z
          rw [← q3]
          exact a2
        · exact q6 u (by omega) u2
    · exact Or.inr ⟨a1, Or.inr ⟨t, h1, h2, by rw [← q3]; exact a2⟩⟩
  · exact absurd q1 c
theorem DL6.nd {h : Int} {m x8 x9 : Int32} (H : DL6 f h m t x8 x9) (c : t < h - 3 ∨ x8.toInt = 0) : (x8.toInt ≠ 0 ∧ DR6 f h m) ∨ (x8.toInt = 0 ∧ ¬ DR6 f h m) := by
  have n2 : nx6 f h m (h - 3 + 1) = f (h - 2) := by unfold nx6; rw [if_neg (by omega), show h - 3 + 1 = h - 2 by omega]
  have n1 : nx6 f h m (h - 2 + 1) = f (h - 1) := by unfold nx6; rw [if_neg (by omega), show h - 2 + 1 = h - 1 by omega]
  have n0 : nx6 f h m (h - 1 + 1) = m := by unfold nx6; rw [if_pos (by omega)]
  rcases H with ⟨q1, q2, q3, q4, q5, q6⟩ | ⟨q1, q2⟩
  · left
    have d3 := q6 (h - 3) (by omega) (by omega)
    have d2 := q6 (h - 2) (by omega) (by omega)
    have d1 := q6 (h - 1) (by omega) (by omega)
    rw [n2] at d3
    rw [n1] at d2
    rw [n0] at d1
    exact ⟨by omega, d3, d2, d1⟩
  · right
    refine ⟨q1, fun d => ?_⟩
    obtain ⟨d3, d2, d1⟩ := d
    rcases q2 with q2 | ⟨u, u1, u2, u3⟩
    · have s1 := d1.2.2.1
      have s1 : (0 < (f (h - 1)).toInt ∧ 0 < m.toInt) ∨ ((f (h - 1)).toInt < 0 ∧ m.toInt < 0) := s1
      omega
    · have z : u = h - 3 ∨ u = h - 2 ∨ u = h - 1 := by omega
      rcases z with z | z | z
      · rw [z, n2] at u3
        exact u3 d3
      · rw [z, n1] at u3
        exact u3 d2
      · rw [z, n0] at u3
        exact u3 d1
theorem d16_y {x9 m z va vb : Int32} (hm : MR6 f) (ez : z = f t) (nz : (f t).toInt ≠ 2000000000) (h9 : -30000 ≤ x9.toInt ∧ x9.toInt ≤ 30000) (s9 : sg6 x9 m) (c : (0 < z.toInt ∧ 0 < m.toInt) ∨ (z.toInt ≤ 0 ∧ m.toInt ≤ 0)) (n0 : z.toInt ≠ 0) (ea : va = if 0 ≤ z.toInt then z else -z) (eb : vb = if 0 ≤ x9.toInt then x9 else -x9) (lt : va.toInt < vb.toInt) : D16 (f t) x9 := by
  have r := (hm t).resolve_left nz
  rw [← ez] at r nz ⊢
  have c1 := abv r ea
  have c2 := abv h9 eb
  have s9 : (0 < x9.toInt ∧ 0 < m.toInt) ∨ (x9.toInt < 0 ∧ m.toInt < 0) := s9
  exact ⟨nz, by omega, by show (0 < z.toInt ∧ 0 < x9.toInt) ∨ (z.toInt < 0 ∧ x9.toInt < 0); omega, by omega⟩
theorem d16_m {x9 : Int32} (h : (f t).toInt = 2000000000) : ¬ D16 (f t) x9 := fun d => d.1 h
theorem d16_s {x9 m z : Int32} (ez : z = f t) (s9 : sg6 x9 m) (c : (0 < z.toInt ∧ m.toInt ≤ 0) ∨ (z.toInt ≤ 0 ∧ 0 < m.toInt) ∨ z.toInt = 0) : ¬ D16 (f t) x9 := fun d => by
  have s1 := d.2.2.1
  rw [← ez] at s1
  have s1 : (0 < z.toInt ∧ 0 < x9.toInt) ∨ (z.toInt < 0 ∧ x9.toInt < 0) := s1
  have s9 : (0 < x9.toInt ∧ 0 < m.toInt) ∨ (x9.toInt < 0 ∧ m.toInt < 0) := s9
  omega
theorem d16_g {x9 z va vb : Int32} (hm : MR6 f) (ez : z = f t) (nz : (f t).toInt ≠ 2000000000) (h9 : -30000 ≤ x9.toInt ∧ x9.toInt ≤ 30000) (ea : va = if 0 ≤ z.toInt then z else -z) (eb : vb = if 0 ≤ x9.toInt then x9 else -x9) (ge : vb.toInt ≤ va.toInt) : ¬ D16 (f t) x9 := fun d => by
  have r := (hm t).resolve_left nz
  have l := d.2.2.2
  rw [← ez] at r l
  have c1 := abv r ea
  have c2 := abv h9 eb
  omega
def JM6 (σ s : SI) (q : Nat) (m : Int32) : Prop :=
  (∀ k, k ≠ 35 → k ≠ 41 → ¬ (44 ≤ k ∧ k ≤ 46) → ¬ (65 ≤ k ∧ k ≤ 67) → s k = σ k) ∧ (∀ j, j ≠ 37 → s 35 j = σ 35 j) ∧ (∀ j, j ≠ q → s 41 j = σ 41 j ∧ s 44 j = σ 44 j ∧ s 45 j = σ 45 j ∧ s 46 j = σ 46 j) ∧
  JV6 (pM σ q) (σ 38 q).toInt (σ 35 29) q (σ 35 31) m (σ 41 q) (σ 44 q) (σ 45 q) (σ 46 q) (stM6 σ) (s 41 q) (s 44 q) (s 45 q) (s 46 q) (stM6 s)
theorem jm_mk {s6 s7 : SI} {m z x8 x9 : Int32} (h : LS6 σ s6 q m) (H : DL6 (pM σ q) (σ 35 29).toInt m t x8 x9) (c : t < (σ 35 29).toInt - 3 ∨ x8.toInt = 0) (e : s7 = up2 s6 46 q (s6 46 q + z)) (hz : (x8.toInt ≠ 0 ∧ z = 1) ∨ (x8.toInt = 0 ∧ z = 0)) : JM6 σ s7 q m := by
  obtain ⟨h1, h2, h3, h4⟩ := h
  have g : ∀ k, k ≠ 46 → s7 k = s6 k := fun k hk => by rw [e]; exact up2_ne hk
  have e46 : s6 46 = σ 46 := h1 46 (by decide) (by decide) (by decide) (by decide) (by omega)
  have st : stM6 s7 = stM6 s6 := by
    unfold stM6
    rw [g 35 (by decide), g 65 (by decide), g 66 (by decide), g 67 (by decide)]
  refine ⟨fun k a b c d => (g k (by omega)).trans (h1 k a b (by omega) (by omega) d), fun j hj => by rw [g 35 (by decide)]; exact h2 j hj, fun j hj => ⟨by rw [g 41 (by decide)]; exact (h3 j hj).1, by rw [g 44 (by decide)]; exact (h3 j hj).2.1, by rw [g 45 (by decide)]; exact (h3 j hj).2.2, by rw [e, up2_n hj, e46]⟩, ?_, ?_⟩
  · rw [e, up2_s, e46]
    rcases H.nd c with ⟨q1, q2⟩ | ⟨q1, q2⟩
    · rw [if_pos q2]
      rcases hz with ⟨-, hz⟩ | ⟨hz, -⟩
      · rw [hz]
      · exact absurd hz q1
    · rw [if_neg q2]
      rcases hz with ⟨hz, -⟩ | ⟨-, hz⟩
      · exact absurd q1 hz
      · rw [hz, Int32.add_zero]
  · rw [st, g 41 (by decide), g 44 (by decide), g 45 (by decide)]
    exact h4
end LOOKM
abbrev po7_X10_steps (σ : SI) (τ : SL) (pl : Int32) (q : Nat) (ba : Int32) : SI × SL → Prop := fun u => ((MRel (fun k => k = 41 ∨ k = 45 ∨ (65 ≤ k ∧ k ≤ 67)) (fun j => j = 37) σ u.1) ∧ (0 ≤ (u.1 35 37).toInt ∧ (u.1 35 37).toInt ≤ 100) ∧ (ZS6 σ u.1 q (σ 35 29 - 1) pl ba))
set_option maxRecDepth 100000 in
set_option maxHeartbeats 4000000 in
theorem c7_X10_steps (l : Launch) {G : Gx} {A : Nat → Prop} (hG : GOk G A) (σ : SI) (τ : SL) (pl : Int32) (q : Nat) (hp_q : pl.toInt.toNat = q) (ba : Int32) (hnw : 0 ≤ (σ 35 29).toInt ∧ (σ 35 29).toInt ≤ 200) (hin : 0 ≤ pl.toInt ∧ pl.toInt < 24) (hsn : 0 ≤ (σ 35 37).toInt ∧ (σ 35 37).toInt ≤ 100) : MV l G A 0 yX10_steps cX10_steps 3 none [.ref (G.2.1 35), .int pl, .int ba] (σ, τ) (po7_X10_steps σ τ pl q ba) := by
  refine met_of (own := RX10) (by decide +kernel) rfl [(0, .ref (G.2.1 35)), (1, .int pl), (2, .int ba)] rfl (Nat.le_of_ble_eq_true rfl) ?_
  intro p e s m args below meth c ls hC hK hR hl
  have hS : va_S A s.heap s.heap [] := va_S.rf
  refine lv_aload_n hC.x hC.b dX10_steps_0 rfl (lv_at hl 0 rfl) ?_
  refine rget hC hK hR (ct_model G _ _) rfl uin_X10 5 (by decide) TF_X10_26 rfl dX10_steps_1 ?_
  refine lv_iload_n hC.x hC.b dX10_steps_4 rfl (lv_at hl 1 rfl) ?_
  refine lv_iconst (v := 1) hC.x hC.b dX10_steps_5 (by decide) ?_
  refine zast hC hK hG hR hS (fun _ => ct_m_isOut G _ _) rfl (by omega) (by omega) hp_q (Or.inr rfl) dX10_steps_6 (fun s_1 es_2 H locs hR hS => ?_)
  refine lv_aload_n hC.x hC.b dX10_steps_7 rfl (lv_at hl 0 rfl) ?_
  refine rget hC hK hR (ct_model G _ _) rfl uin_X10 9 (by decide) TF_X10_38 rfl dX10_steps_8 ?_
  refine lv_iload_n hC.x hC.b dX10_steps_11 rfl (lv_at hl 1 rfl) ?_
  refine lv_dup2_11 hC.x hC.b dX10_steps_12 rfl rfl ?_
  refine ald hC hK hR (ct_m_stepMany G _ _) rfl (by omega) (by omega) hp_q dX10_steps_13 ?_
  have rd_3 : (s_1 45 q).toInt = (σ 45 q).toInt := congrArg Int32.toInt (show s_1 45 q = σ 45 q from (by rw [es_2]; exact up2_o (by omega)))
  refine lv_iconst (v := 1) hC.x hC.b dX10_steps_14 (by decide) ?_
  refine lv_iadd hC.x hC.b dX10_steps_15 ?_
  refine ast hC hK hG hR hS (fun _ => ct_m_stepMany G _ _) rfl (by omega) (by omega) hp_q dX10_steps_16 (fun s_4 es_5 H locs hR hS => ?_)
  refine lv_aload_n hC.x hC.b dX10_steps_17 rfl (lv_at hl 0 rfl) ?_
  refine rget hC hK hR (ct_model G _ _) rfl uin_X10 37 (by decide) TF_X10_254 rfl dX10_steps_18 ?_
  have rd_6 : (s_4 35 37).toInt = (σ 35 37).toInt := congrArg Int32.toInt (Eq.trans (show s_4 35 37 = s_1 35 37 from (by rw [es_5]; exact up2_o (by omega))) (show s_1 35 37 = σ 35 37 from (by rw [es_2]; exact up2_o (by omega))))
  refine lv_bipush (v := 100) hC.x hC.b dX10_steps_21 (by decide) ?_
  refine bi_ge (tgt := 71) (a := (s_4 35 37).toInt) (b := 100) hC.x hC.b rfl rfl dX10_steps_23 (by decide) (fun c_7 => ?_) (fun c_7 => ?_)
  · skip
    have rd_8 : (s_4 35 37).toInt = (σ 35 37).toInt := congrArg Int32.toInt (Eq.trans (show s_4 35 37 = s_1 35 37 from (by rw [es_5]; exact up2_o (by omega))) (show s_1 35 37 = σ 35 37 from (by rw [es_2]; exact up2_o (by omega))))
    exact retv hC hK hR hS (⟨by exact (by rw [es_5]; exact MRel.up ((by rw [es_2]; exact MRel.up (MRel.rf) (by omega) (by first | omega | (dsimp only; omega)))) (by omega) (by first | omega | (dsimp only; omega))), by first | omega | (dsimp only; omega), by (try dsimp only); exact zs_n es_2 es_5 (by omega)⟩) dX10_steps_71
  · skip
    refine lv_aload_n hC.x hC.b dX10_steps_26 rfl (lv_at hl 0 rfl) ?_
    refine rget hC hK hR (ct_model G _ _) rfl uin_X10 34 (by decide) TF_X10_108 rfl dX10_steps_27 ?_
    refine lv_aload_n hC.x hC.b dX10_steps_30 rfl (lv_at hl 0 rfl) ?_
    refine rget hC hK hR (ct_model G _ _) rfl uin_X10 37 (by decide) TF_X10_254 rfl dX10_steps_31 ?_
    have rd_9 : (s_4 35 37).toInt = (σ 35 37).toInt := congrArg Int32.toInt (Eq.trans (show s_4 35 37 = s_1 35 37 from (by rw [es_5]; exact up2_o (by omega))) (show s_1 35 37 = σ 35 37 from (by rw [es_2]; exact up2_o (by omega))))
    refine lv_aload_n hC.x hC.b dX10_steps_34 rfl (lv_at hl 0 rfl) ?_
    refine rget hC hK hR (ct_model G _ _) rfl uin_X10 29 (by decide) TF_X10_137 rfl dX10_steps_35 ?_
    have rd_10 : (s_4 35 29).toInt = (σ 35 29).toInt := congrArg Int32.toInt (Eq.trans (show s_4 35 29 = s_1 35 29 from (by rw [es_5]; exact up2_o (by omega))) (show s_1 35 29 = σ 35 29 from (by rw [es_2]; exact up2_o (by omega))))
    refine lv_iconst (v := 1) hC.x hC.b dX10_steps_38 (by decide) ?_
    refine lv_isub hC.x hC.b dX10_steps_39 ?_
    have pr_11 : ((s_4 35 29) - (1 : Int32)).toInt = ((s_4 35 29).toInt - 1) := subI rfl rfl (by omega) (by omega)
    refine ast hC hK hG hR hS (fun _ => ct_m_stepHour G _ _) rfl (by omega) (by omega) rfl dX10_steps_40 (fun s_12 es_13 H locs hR hS => ?_)
    refine lv_aload_n hC.x hC.b dX10_steps_41 rfl (lv_at hl 0 rfl) ?_
    refine rget hC hK hR (ct_model G _ _) rfl uin_X10 35 (by decide) TF_X10_111 rfl dX10_steps_42 ?_
    refine lv_aload_n hC.x hC.b dX10_steps_45 rfl (lv_at hl 0 rfl) ?_
    refine rget hC hK hR (ct_model G _ _) rfl uin_X10 37 (by decide) TF_X10_254 rfl dX10_steps_46 ?_
    have rd_14 : (s_12 35 37).toInt = (σ 35 37).toInt := congrArg Int32.toInt (Eq.trans (show s_12 35 37 = s_4 35 37 from (by rw [es_13]; exact up2_o (by omega))) (Eq.trans (show s_4 35 37 = s_1 35 37 from (by rw [es_5]; exact up2_o (by omega))) (show s_1 35 37 = σ 35 37 from (by rw [es_2]; exact up2_o (by omega)))))
    refine lv_iload_n hC.x hC.b dX10_steps_49 rfl (lv_at hl 1 rfl) ?_
    refine ast hC hK hG hR hS (fun _ => ct_m_stepPlace G _ _) rfl (by omega) (by omega) rfl dX10_steps_50 (fun s_15 es_16 H locs hR hS => ?_)
    refine lv_aload_n hC.x hC.b dX10_steps_51 rfl (lv_at hl 0 rfl) ?_
    refine rget hC hK hR (ct_model G _ _) rfl uin_X10 36 (by decide) TF_X10_114 rfl dX10_steps_52 ?_
    refine lv_aload_n hC.x hC.b dX10_steps_55 rfl (lv_at hl 0 rfl) ?_
    refine rget hC hK hR (ct_model G _ _) rfl uin_X10 37 (by decide) TF_X10_254 rfl dX10_steps_56 ?_
    have rd_17 : (s_15 35 37).toInt = (σ 35 37).toInt := congrArg Int32.toInt (Eq.trans (show s_15 35 37 = s_12 35 37 from (by rw [es_16]; exact up2_o (by omega))) (Eq.trans (show s_12 35 37 = s_4 35 37 from (by rw [es_13]; exact up2_o (by omega))) (Eq.trans (show s_4 35 37 = s_1 35 37 from (by rw [es_5]; exact up2_o (by omega))) (show s_1 35 37 = σ 35 37 from (by rw [es_2]; exact up2_o (by omega))))))
    refine lv_iload_n hC.x hC.b dX10_steps_59 rfl (lv_at hl 2 rfl) ?_
    refine ast hC hK hG hR hS (fun _ => ct_m_stepMissed G _ _) rfl (by omega) (by omega) rfl dX10_steps_60 (fun s_18 es_19 H locs hR hS => ?_)
    refine lv_aload_n hC.x hC.b dX10_steps_61 rfl (lv_at hl 0 rfl) ?_
    refine lv_dup hC.x hC.b dX10_steps_62 rfl ?_
    refine rget hC hK hR (ct_model G _ _) rfl uin_X10 37 (by decide) TF_X10_254 rfl dX10_steps_63 ?_
    have rd_20 : (s_18 35 37).toInt = (σ 35 37).toInt := congrArg Int32.toInt (Eq.trans (show s_18 35 37 = s_15 35 37 from (by rw [es_19]; exact up2_o (by omega))) (Eq.trans (show s_15 35 37 = s_12 35 37 from (by rw [es_16]; exact up2_o (by omega))) (Eq.trans (show s_12 35 37 = s_4 35 37 from (by rw [es_13]; exact up2_o (by omega))) (Eq.trans (show s_4 35 37 = s_1 35 37 from (by rw [es_5]; exact up2_o (by omega))) (show s_1 35 37 = σ 35 37 from (by rw [es_2]; exact up2_o (by omega)))))))
    refine lv_iconst (v := 1) hC.x hC.b dX10_steps_66 (by decide) ?_
    refine lv_iadd hC.x hC.b dX10_steps_67 ?_
    have pr_21 : ((s_18 35 37) + (1 : Int32)).toInt = ((s_18 35 37).toInt + 1) := addI rfl rfl (by omega) (by omega)
    refine rputi hC hK hG hR hS (ct_model G _ _) rfl uin_X10 tyX10 tyX10_ok nmX10 37 (by decide) TF_X10_254 rfl (Or.inl rfl) (Nat.le_of_ble_eq_true rfl) rfl (ct_model G _ _) dX10_steps_68 (fun s_23 es_22 H locs hR hS => ?_)
    have rd_24 : (s_23 35 37).toInt = ((s_18 35 37) + (1 : Int32)).toInt := congrArg Int32.toInt (show s_23 35 37 = ((s_18 35 37) + (1 : Int32)) from (by rw [es_22]; exact up2_s))
    exact retv hC hK hR hS (⟨by exact (by rw [es_22]; exact MRel.upm ((by rw [es_19]; exact MRel.up ((by rw [es_16]; exact MRel.up ((by rw [es_13]; exact MRel.up ((by rw [es_5]; exact MRel.up ((by rw [es_2]; exact MRel.up (MRel.rf) (by omega) (by first | omega | (dsimp only; omega)))) (by omega) (by first | omega | (dsimp only; omega)))) (by omega) (by first | omega | (dsimp only; omega)))) (by omega) (by first | omega | (dsimp only; omega)))) (by omega) (by first | omega | (dsimp only; omega)))) (by first | omega | (dsimp only; omega))), by first | omega | (dsimp only; omega), by (try dsimp only); exact zs_y es_2 es_5 es_13 es_16 es_19 es_22 (by omega)⟩) dX10_steps_71

abbrev po7_X10_looks (σ : SI) (τ : SL) (pl : Int32) (q : Nat) (ma : Int32) : SI × SL → Prop := fun u => ((MRel (fun k => k = 41 ∨ (44 ≤ k ∧ k ≤ 46) ∨ (65 ≤ k ∧ k ≤ 67)) (fun j => j = 37) σ u.1) ∧ (KM u.1) ∧ (JM6 σ u.1 q ma))
set_option maxRecDepth 100000 in
set_option maxHeartbeats 4000000 in
theorem c7_X10_looks (l : Launch) {G : Gx} {A : Nat → Prop} (hG : GOk G A) (σ : SI) (τ : SL) (pl : Int32) (q : Nat) (hp_q : pl.toInt.toNat = q) (ma : Int32) (hnw : 0 ≤ (σ 35 29).toInt ∧ (σ 35 29).toInt ≤ 200) (hin : 0 ≤ pl.toInt ∧ pl.toInt < 24) (hkm : KM σ) (hma : -30000 ≤ ma.toInt ∧ ma.toInt ≤ 30000) (hrc : 1 ≤ (σ 38 q).toInt ∧ (σ 38 q).toInt ≤ 12) (hsu6 : (σ 44 q).toInt = (σ 35 29).toInt - 1 → isMp σ q ((σ 35 29).toInt - 1)) : MV l G A 3 yX10_looks cX10_looks 11 none [.ref (G.2.1 35), .int pl, .int ma] (σ, τ) (po7_X10_looks σ τ pl q ma) := by
  refine met_of (own := RX10) (by decide +kernel) rfl [(0, .ref (G.2.1 35)), (1, .int pl), (2, .int ma)] rfl (Nat.le_of_ble_eq_true rfl) ?_
  intro p e s m args below meth c ls hC hK hR hl
  have hS : va_S A s.heap s.heap [] := va_S.rf
  refine lv_lconst (v := 0) hC.x hC.b dX10_looks_0 (by decide) ?_
  refine lv_lstore_n (lv' := [(3, .long (0 : Int64)), (0, .ref (G.2.1 35)), (1, .int pl), (2, .int ma)]) hC.x hC.b dX10_looks_1 rfl hl (by decide) rfl (fun ls hl => ?_)
  refine lv_iconst (v := 0) hC.x hC.b dX10_looks_2 (by decide) ?_
  refine lv_istore (lv' := [(5, .int (0 : Int32)), (3, .long (0 : Int64)), (0, .ref (G.2.1 35)), (1, .int pl), (2, .int ma)]) hC.x hC.b dX10_looks_3 hl (by decide) rfl (fun ls hl => ?_)
  refine lv_aload_n hC.x hC.b dX10_looks_5 rfl (lv_at hl 2 rfl) ?_
  refine rget hC hK hR (ct_model G _ _) rfl uin_X10 29 (by decide) TF_X10_137 rfl dX10_looks_6 ?_
  refine lv_aload_n hC.x hC.b dX10_looks_9 rfl (lv_at hl 2 rfl) ?_
  refine rget hC hK hR (ct_model G _ _) rfl uin_X10 2 (by decide) TF_X10_16 rfl dX10_looks_10 ?_
  refine lv_iload_n hC.x hC.b dX10_looks_13 rfl (lv_at hl 3 rfl) ?_
  refine ald hC hK hR (ct_m_two G _ _) rfl (by omega) (by omega) hp_q dX10_looks_14 ?_
  refine lv_isub hC.x hC.b dX10_looks_15 ?_
  have pr_1 : ((σ 35 29) - (σ 38 q)).toInt = ((σ 35 29).toInt - (σ 38 q).toInt) := subI rfl rfl (by omega) (by omega)
  refine lv_istore (lv' := [(6, .int ((σ 35 29) - (σ 38 q))), (5, .int (0 : Int32)), (3, .long (0 : Int64)), (0, .ref (G.2.1 35)), (1, .int pl), (2, .int ma)]) hC.x hC.b dX10_looks_16 hl (by decide) rfl (fun ls hl => ?_)
  have L_18 : ∀ (F : Nat) (n : Nat) (x3 : Int64) (x5 : Int32) (t : Int32), (((σ 35 29).toInt - t.toInt).toNat) < F → (t.toInt = ((σ 35 29).toInt - (σ 38 q).toInt) + n ∧ (n : Int) ≤ (σ 38 q).toInt) → (x5 = (MG (pM σ q) ((σ 35 29).toInt - (σ 38 q).toInt) n).1 ∧ x3 = (MG (pM σ q) ((σ 35 29).toInt - (σ 38 q).toInt) n).2.1) → ∀ (H : Heap) (locs : List Loc) (ls : Array Slot), RepH G σ τ H → va_S A s.heap H locs → lv_has ls 11 [(0, .ref (G.2.1 35)), (1, .int pl), (2, .int ma), (3, .long x3), (5, .int x5), (6, .int t)] → W p l e (rmD 3) s m args below meth c H locs 0 0 (MQ below (va_Qv (po7_X10_looks σ τ pl q ma) (BU G) A) args s 0 0 A) (F0 m 18 ls []) := by
    intro F
    induction F with
    | zero => intro n x3 x5 t hm; exact absurd hm (Nat.not_lt_zero _)
    | succ F ih_18 =>
      intro n x3 x5 t hm_18 hi0_18 hi1_18 H locs ls hR hS hl
      have tlo := i32_lo t
      refine lv_iload hC.x hC.b dX10_looks_18 (lv_at hl 5 rfl) ?_
      refine lv_aload_n hC.x hC.b dX10_looks_20 rfl (lv_at hl 0 rfl) ?_
      refine rget hC hK hR (ct_model G _ _) rfl uin_X10 29 (by decide) TF_X10_137 rfl dX10_looks_21 ?_
      refine bi_ge (tgt := 68) (a := t.toInt) (b := (σ 35 29).toInt) hC.x hC.b rfl rfl dX10_looks_24 (by decide) (fun c_2 => ?_) (fun c_2 => ?_)
      · skip
        have L_84 : ∀ (x6 : Int64), (x6 = UM6 (pM σ q) (σ 38 q).toInt (σ 35 29).toInt) → ∀ (H : Heap) (locs : List Loc) (ls : Array Slot), RepH G σ τ H → va_S A s.heap H locs → lv_has ls 11 [(0, .ref (G.2.1 35)), (1, .int pl), (2, .int ma), (6, .long x6)] → W p l e (rmD 3) s m args below meth c H locs 0 0 (MQ below (va_Qv (po7_X10_looks σ τ pl q ma) (BU G) A) args s 0 0 A) (F0 m 84 ls []) := by
          intro x6 hi0_84 H locs ls hR hS hl
          have L_202 : ∀ (s6 : SI) (t6 : SL), (KM s6) → (LS6 σ s6 q ma) → (MRel (fun k => k = 41 ∨ (44 ≤ k ∧ k ≤ 46) ∨ (65 ≤ k ∧ k ≤ 67)) (fun j => j = 37) σ s6) → ∀ (H : Heap) (locs : List Loc) (ls : Array Slot), RepH G s6 t6 H → va_S A s.heap H locs → lv_has ls 11 [(0, .ref (G.2.1 35)), (1, .int pl), (2, .int ma)] → W p l e (rmD 3) s m args below meth c H locs 0 0 (MQ below (va_Qv (po7_X10_looks σ τ pl q ma) (BU G) A) args s 0 0 A) (F0 m 202 ls []) := by
            intro s6 t6 hi0_202 hi1_202 hi2_202 H locs ls hR hS hl
            obtain ⟨epm, emp, e56, e29⟩ := hi1_202.pm
            have L_213 : ∀ (x8 : Int32), ((x8.toInt = 1 ∧ ma.toInt ≠ 0) ∨ (x8.toInt = 0 ∧ ma.toInt = 0)) → ∀ (H : Heap) (locs : List Loc) (ls : Array Slot), RepH G s6 t6 H → va_S A s.heap H locs → lv_has ls 11 [(0, .ref (G.2.1 35)), (1, .int pl), (2, .int ma), (8, .int x8)] → W p l e (rmD 3) s m args below meth c H locs 0 0 (MQ below (va_Qv (po7_X10_looks σ τ pl q ma) (BU G) A) args s 0 0 A) (F0 m 213 ls []) := by
              intro x8 hi0_213 H locs ls hR hS hl
              refine lv_iload_n hC.x hC.b dX10_looks_213 rfl (lv_at hl 2 rfl) ?_
              refine lv_istore (lv' := [(9, .int ma), (0, .ref (G.2.1 35)), (1, .int pl), (2, .int ma), (8, .int x8)]) hC.x hC.b dX10_looks_214 hl (by decide) rfl (fun ls hl => ?_)
              refine lv_aload_n hC.x hC.b dX10_looks_216 rfl (lv_at hl 1 rfl) ?_
              refine rget hC hK hR (ct_model G _ _) rfl uin_X10 29 (by decide) TF_X10_137 rfl dX10_looks_217 ?_
              have rd_3 : (s6 35 29).toInt = (σ 35 29).toInt := congrArg Int32.toInt (show s6 35 29 = σ 35 29 from hi2_202.2 29 (by first | omega | (dsimp only; omega)))
              refine lv_iconst (v := 1) hC.x hC.b dX10_looks_220 (by decide) ?_
              refine lv_isub hC.x hC.b dX10_looks_221 ?_
              have pr_4 : ((s6 35 29) - (1 : Int32)).toInt = ((s6 35 29).toInt - 1) := subI rfl rfl (by omega) (by omega)
              refine lv_topi (fun x_5 ex_6 => ?_)
              have pr_7 : x_5.toInt = ((s6 35 29).toInt - 1) := by rw [ex_6]; exact pr_4
              refine lv_istore (lv' := [(10, .int x_5), (9, .int ma), (0, .ref (G.2.1 35)), (1, .int pl), (2, .int ma), (8, .int x8)]) hC.x hC.b dX10_looks_222 hl (by decide) rfl (fun ls hl => ?_)
              have L_224 : ∀ (F : Nat) (x8 : Int32) (x9 : Int32) (t : Int32), ((t.toInt + 4).toNat) < F → (t.toInt ≤ (σ 35 29).toInt - 1) → (DL6 (pM σ q) (σ 35 29).toInt ma t.toInt x8 x9) → ∀ (H : Heap) (locs : List Loc) (ls : Array Slot), RepH G s6 t6 H → va_S A s.heap H locs → lv_has ls 11 [(0, .ref (G.2.1 35)), (1, .int pl), (2, .int ma), (8, .int x8), (9, .int x9), (10, .int t)] → W p l e (rmD 3) s m args below meth c H locs 0 0 (MQ below (va_Qv (po7_X10_looks σ τ pl q ma) (BU G) A) args s 0 0 A) (F0 m 224 ls []) := by
                intro F
                induction F with
                | zero => intro x8 x9 t hm; exact absurd hm (Nat.not_lt_zero _)
                | succ F ih_224 =>
                  intro x8 x9 t hm_224 hi0_224 hi1_224 H locs ls hR hS hl
                  refine lv_iload hC.x hC.b dX10_looks_224 (lv_at hl 5 rfl) ?_
                  refine lv_aload_n hC.x hC.b dX10_looks_226 rfl (lv_at hl 0 rfl) ?_
                  refine rget hC hK hR (ct_model G _ _) rfl uin_X10 29 (by decide) TF_X10_137 rfl dX10_looks_227 ?_
                  have rd_8 : (s6 35 29).toInt = (σ 35 29).toInt := congrArg Int32.toInt (show s6 35 29 = σ 35 29 from hi2_202.2 29 (by first | omega | (dsimp only; omega)))
                  refine lv_iconst (v := 3) hC.x hC.b dX10_looks_230 (by decide) ?_
                  refine lv_isub hC.x hC.b dX10_looks_231 ?_
                  have pr_9 : ((s6 35 29) - (3 : Int32)).toInt = ((s6 35 29).toInt - 3) := subI rfl rfl (by omega) (by omega)
                  refine bi_lt (tgt := 352) (a := t.toInt) (b := ((s6 35 29).toInt - 3)) hC.x hC.b rfl pr_9 dX10_looks_232 (by decide) (fun c_10 => ?_) (fun c_10 => ?_)
                  · skip
                    refine lv_aload_n hC.x hC.b dX10_looks_352 rfl (lv_at hl 0 rfl) ?_
                    refine rget hC hK hR (ct_model G _ _) rfl uin_X10 10 (by decide) TF_X10_41 rfl dX10_looks_353 ?_
                    refine lv_iload_n hC.x hC.b dX10_looks_356 rfl (lv_at hl 1 rfl) ?_
                    refine lv_dup2_11 hC.x hC.b dX10_looks_357 rfl rfl ?_
                    refine ald hC hK hR (ct_m_drifts G _ _) rfl (by omega) (by omega) hp_q dX10_looks_358 ?_
                    refine lv_iload hC.x hC.b dX10_looks_359 (lv_at hl 3 rfl) ?_
                    refine bz_eq (tgt := 368) (a := x8.toInt) (b := 0) hC.x hC.b rfl rfl dX10_looks_361 (by decide) (fun c_11 => ?_) (fun c_11 => ?_)
                    · skip
                      refine lv_iconst (v := 0) hC.x hC.b dX10_looks_368 (by decide) ?_
                      refine lv_iadd hC.x hC.b dX10_looks_369 ?_
                      refine ast hC hK hG hR hS (fun _ => ct_m_drifts G _ _) rfl (by omega) (by omega) hp_q dX10_looks_370 (fun s_12 es_13 H locs hR hS => ?_)
                      exact retv hC hK hR hS (⟨by exact (by rw [es_13]; exact MRel.up (hi2_202) (by omega) (by first | omega | (dsimp only; omega))), by exact (by rw [es_13]; exact KM.up hi0_202 (by omega)), by (try dsimp only); exact jm_mk hi1_202 hi1_224 (by omega) es_13 (by first | exact Or.inl ⟨by omega, rfl⟩ | exact Or.inr ⟨by omega, rfl⟩)⟩) dX10_looks_371
                    · skip
                      refine lv_iconst (v := 1) hC.x hC.b dX10_looks_364 (by decide) ?_
                      refine lv_goto (tgt := 369) hC.x hC.b dX10_looks_365 (by decide) ?_
                      refine lv_iadd hC.x hC.b dX10_looks_369 ?_
                      refine ast hC hK hG hR hS (fun _ => ct_m_drifts G _ _) rfl (by omega) (by omega) hp_q dX10_looks_370 (fun s_14 es_15 H locs hR hS => ?_)
                      exact retv hC hK hR hS (⟨by exact (by rw [es_15]; exact MRel.up (hi2_202) (by omega) (by first | omega | (dsimp only; omega))), by exact (by rw [es_15]; exact KM.up hi0_202 (by omega)), by (try dsimp only); exact jm_mk hi1_202 hi1_224 (by omega) es_15 (by first | exact Or.inl ⟨by omega, rfl⟩ | exact Or.inr ⟨by omega, rfl⟩)⟩) dX10_looks_371
                  · skip
                    refine lv_iload hC.x hC.b dX10_looks_235 (lv_at hl 3 rfl) ?_
                    refine bz_eq (tgt := 352) (a := x8.toInt) (b := 0) hC.x hC.b rfl rfl dX10_looks_237 (by decide) (fun c_16 => ?_) (fun c_16 => ?_)
                    · skip
                      refine lv_aload_n hC.x hC.b dX10_looks_352 rfl (lv_at hl 0 rfl) ?_
                      refine rget hC hK hR (ct_model G _ _) rfl uin_X10 10 (by decide) TF_X10_41 rfl dX10_looks_353 ?_
                      refine lv_iload_n hC.x hC.b dX10_looks_356 rfl (lv_at hl 1 rfl) ?_
                      refine lv_dup2_11 hC.x hC.b dX10_looks_357 rfl rfl ?_
                      refine ald hC hK hR (ct_m_drifts G _ _) rfl (by omega) (by omega) hp_q dX10_looks_358 ?_
                      refine lv_iload hC.x hC.b dX10_looks_359 (lv_at hl 3 rfl) ?_
                      refine bz_eq (tgt := 368) (a := x8.toInt) (b := 0) hC.x hC.b rfl rfl dX10_looks_361 (by decide) (fun c_17 => ?_) (fun c_17 => ?_)
                      · skip
                        refine lv_iconst (v := 0) hC.x hC.b dX10_looks_368 (by decide) ?_
                        refine lv_iadd hC.x hC.b dX10_looks_369 ?_
                        refine ast hC hK hG hR hS (fun _ => ct_m_drifts G _ _) rfl (by omega) (by omega) hp_q dX10_looks_370 (fun s_18 es_19 H locs hR hS => ?_)
                        exact retv hC hK hR hS (⟨by exact (by rw [es_19]; exact MRel.up (hi2_202) (by omega) (by first | omega | (dsimp only; omega))), by exact (by rw [es_19]; exact KM.up hi0_202 (by omega)), by (try dsimp only); exact jm_mk hi1_202 hi1_224 (by omega) es_19 (by first | exact Or.inl ⟨by omega, rfl⟩ | exact Or.inr ⟨by omega, rfl⟩)⟩) dX10_looks_371
                      · skip
                        refine lv_iconst (v := 1) hC.x hC.b dX10_looks_364 (by decide) ?_
                        refine lv_goto (tgt := 369) hC.x hC.b dX10_looks_365 (by decide) ?_
                        refine lv_iadd hC.x hC.b dX10_looks_369 ?_
                        refine ast hC hK hG hR hS (fun _ => ct_m_drifts G _ _) rfl (by omega) (by omega) hp_q dX10_looks_370 (fun s_20 es_21 H locs hR hS => ?_)
                        exact retv hC hK hR hS (⟨by exact (by rw [es_21]; exact MRel.up (hi2_202) (by omega) (by first | omega | (dsimp only; omega))), by exact (by rw [es_21]; exact KM.up hi0_202 (by omega)), by (try dsimp only); exact jm_mk hi1_202 hi1_224 (by omega) es_21 (by first | exact Or.inl ⟨by omega, rfl⟩ | exact Or.inr ⟨by omega, rfl⟩)⟩) dX10_looks_371
                    · skip
                      have L_327 : ∀ (y8 : Int32), (y8.toInt = 0 ∨ 0 ≤ t.toInt) → ((y8.toInt = 1 ∧ D16 ((pM σ q) t.toInt) x9) ∨ (y8.toInt = 0 ∧ ¬ D16 ((pM σ q) t.toInt) x9)) → ∀ (H : Heap) (locs : List Loc) (ls : Array Slot), RepH G s6 t6 H → va_S A s.heap H locs → lv_has ls 11 [(0, .ref (G.2.1 35)), (1, .int pl), (2, .int ma), (8, .int y8), (9, .int x9), (10, .int t)] → W p l e (rmD 3) s m args below meth c H locs 0 0 (MQ below (va_Qv (po7_X10_looks σ τ pl q ma) (BU G) A) args s 0 0 A) (F0 m 327 ls []) := by
                        intro y8 hi0_327 hi1_327 H locs ls hR hS hl
                        have hmt : y8.toInt ≠ 0 → isMp σ q t.toInt := fun z9 => by rcases hi1_327 with ⟨a1, a2⟩ | ⟨a1, a2⟩ <;> first | (exact absurd a1 z9) | (by_cases z8 : isMp σ q t.toInt; exact z8; exact absurd (pM_n z8) a2.1)
                        have L_346 : ∀ (y9 : Int32), ((y8.toInt ≠ 0 → y9 = (pM σ q) t.toInt) ∧ (y8.toInt = 0 → y9 = x9)) → ∀ (H : Heap) (locs : List Loc) (ls : Array Slot), RepH G s6 t6 H → va_S A s.heap H locs → lv_has ls 11 [(0, .ref (G.2.1 35)), (1, .int pl), (2, .int ma), (8, .int y8), (9, .int y9), (10, .int t)] → W p l e (rmD 3) s m args below meth c H locs 0 0 (MQ below (va_Qv (po7_X10_looks σ τ pl q ma) (BU G) A) args s 0 0 A) (F0 m 346 ls []) := by
                          intro y9 hi0_346 H locs ls hR hS hl
                          obtain ⟨x_22, ex_23⟩ : ∃ y : Int32, y = t + (-1) := ⟨_, rfl⟩
                          have pr_24 : x_22.toInt = t.toInt + (-1) := by rw [ex_23]; exact addI rfl rfl (by omega) (by omega)
                          refine lv_iinc (v := x_22) (lv' := [(10, .int x_22), (0, .ref (G.2.1 35)), (1, .int pl), (2, .int ma), (8, .int y8), (9, .int y9)]) hC.x hC.b dX10_looks_346 hl (k := 5) rfl ex_23.symm (by decide) rfl (fun ls hl => ?_)
                          refine lv_goto (tgt := 224) hC.x hC.b dX10_looks_349 (by decide) ?_
                          exact ih_224 y8 y9 x_22 (by omega) (by first | omega | assumption) (by exact DL6.go (pM_R hkm) hi1_224 (by omega) (by omega) (by omega) hi1_327 hi0_346 (by omega)) _ _ _ hR hS (lv_sub hl [1, 2, 3, 4, 5, 0] rfl)
                        refine lv_iload hC.x hC.b dX10_looks_327 (lv_at hl 3 rfl) ?_
                        refine bz_eq (tgt := 346) (a := y8.toInt) (b := 0) hC.x hC.b rfl rfl dX10_looks_329 (by decide) (fun c_25 => ?_) (fun c_25 => ?_)
                        · skip
                          exact L_346 x9 (by first | exact ⟨fun z9 => absurd (by omega) z9, fun _ => rfl⟩ | exact ⟨fun z9 => by rw [e56]; exact (pM_v (hmt z9)).symm, fun z9 => by omega⟩) _ _ _ hR hS (lv_sub hl [0, 1, 2, 3, 4, 5] rfl)
                        · skip
                          refine lv_aload_n hC.x hC.b dX10_looks_332 rfl (lv_at hl 0 rfl) ?_
                          refine rget hC hK hR (ct_model G _ _) rfl uin_X10 20 (by decide) TF_X10_71 rfl dX10_looks_333 ?_
                          refine lv_aload_n hC.x hC.b dX10_looks_336 rfl (lv_at hl 0 rfl) ?_
                          refine lv_iload hC.x hC.b dX10_looks_337 (lv_at hl 5 rfl) ?_
                          refine lv_iload_n hC.x hC.b dX10_looks_339 rfl (lv_at hl 1 rfl) ?_
                          refine goip (runV (As := [.int t, .int pl]) (rest := [.ref (G.2.1 56)]) hC hK hR hl.1 (c_X10_at l hG s6 t6 t t.toInt.toNat rfl pl q (by first | rfl | (rw [show pl.toInt = pl.toInt from rfl]; done) | (rw [show pl.toInt = pl.toInt from rfl]; exact hp_q)) (by omega) (by omega)) (call_b hC.ts TC_X10_at TN_X10 TM_X10_140 hd_X10_at ⟨Nat.le_of_ble_eq_true rfl, Nat.le_of_ble_eq_true rfl⟩) TI_X10_at TS_X10_at (ct_model G _ _) rfl rfl rfl (Nat.le_of_ble_eq_true rfl) dX10_looks_340 ⟨Nat.le_of_ble_eq_true rfl, Nat.le_of_ble_eq_true rfl⟩) hS (fun v_26 H locs w_27 hR hS => ?_)
                          subst w_27
                          refine ald hC hK hR (ct_m_ms G _ _) (nI_T _ (by omega)) (by omega) (by omega) (Int.toNat_natCast _) dX10_looks_343 ?_
                          have rd_28 : (s6 56 (24 * t.toInt.toNat + q)).toInt = (σ 56 (24 * t.toInt.toNat + q)).toInt := congrArg Int32.toInt (show s6 56 (24 * t.toInt.toNat + q) = σ 56 (24 * t.toInt.toNat + q) from congrFun (hi2_202.1 56 (by omega) (by first | omega | (dsimp only; omega) | (intro h; exact h))) (24 * t.toInt.toNat + q))
                          refine lv_topi (fun x_29 ex_30 => ?_)
                          refine lv_istore (lv' := [(9, .int x_29), (0, .ref (G.2.1 35)), (1, .int pl), (2, .int ma), (8, .int y8), (10, .int t)]) hC.x hC.b dX10_looks_344 hl (by decide) rfl (fun ls hl => ?_)
                          exact L_346 x_29 (by first | exact ⟨fun z9 => absurd (by omega) z9, fun _ => rfl⟩ | exact ⟨fun z9 => by rw [ex_30]; rw [e56]; exact (pM_v (hmt z9)).symm, fun z9 => by omega⟩) _ _ _ hR hS (lv_sub hl [1, 2, 3, 4, 0, 5] rfl)
                      have hdl : (-30000 ≤ x9.toInt ∧ x9.toInt ≤ 30000) ∧ sg6 x9 ma := by rcases hi1_224 with ⟨q1, q2, q3, q4, q5, q6⟩ | ⟨q1, q2⟩ <;> first | exact ⟨q4, q5⟩ | exact absurd q1 (by assumption)
                      have rd9 : (s6 35 29).toInt = (σ 35 29).toInt := by rw [e29]
                      refine lv_aload_n hC.x hC.b dX10_looks_240 rfl (lv_at hl 0 rfl) ?_
                      refine lv_iload hC.x hC.b dX10_looks_241 (lv_at hl 5 rfl) ?_
                      refine lv_iload_n hC.x hC.b dX10_looks_243 rfl (lv_at hl 1 rfl) ?_
                      have rd_31 : (s6 35 29).toInt = (σ 35 29).toInt := congrArg Int32.toInt (show s6 35 29 = σ 35 29 from hi2_202.2 29 (by first | omega | (dsimp only; omega)))
                      refine goip (runV (As := [.int t, .int pl]) (rest := []) hC hK hR hl.1 (c5_X10_isMissed l hG s6 t6 t t.toInt.toNat rfl pl q (by first | rfl | (rw [show pl.toInt = pl.toInt from rfl]; done) | (rw [show pl.toInt = pl.toInt from rfl]; exact hp_q)) (by first | assumption | omega) (by omega)) (call_b hC.ts TC_X10_isMissed TN_X10 TM_X10_214 hd_X10_isMissed ⟨Nat.le_of_ble_eq_true rfl, Nat.le_of_ble_eq_true rfl⟩) TI_X10_isMissed TS_X10_isMissed (ct_model G _ _) rfl rfl rfl (Nat.le_of_ble_eq_true rfl) dX10_looks_244 ⟨Nat.le_of_ble_eq_true rfl, Nat.le_of_ble_eq_true rfl⟩) hS (fun v_32 H locs w_33 hR hS => ?_)
                      rcases w_33 with ⟨rfl, f_34, f_35, f_36⟩ | ⟨rfl, f_37⟩
                      · skip
                        refine bz_eq (tgt := 324) (a := 1) (b := 0) hC.x hC.b rfl rfl dX10_looks_247 (by decide) (fun c_38 => absurd c_38 (by decide)) (fun _ => ?_)
                        refine lv_aload_n hC.x hC.b dX10_looks_250 rfl (lv_at hl 0 rfl) ?_
                        refine rget hC hK hR (ct_model G _ _) rfl uin_X10 20 (by decide) TF_X10_71 rfl dX10_looks_251 ?_
                        refine lv_aload_n hC.x hC.b dX10_looks_254 rfl (lv_at hl 0 rfl) ?_
                        refine lv_iload hC.x hC.b dX10_looks_255 (lv_at hl 5 rfl) ?_
                        refine lv_iload_n hC.x hC.b dX10_looks_257 rfl (lv_at hl 1 rfl) ?_
                        refine goip (runV (As := [.int t, .int pl]) (rest := [.ref (G.2.1 56)]) hC hK hR hl.1 (c_X10_at l hG s6 t6 t t.toInt.toNat rfl pl q (by first | rfl | (rw [show pl.toInt = pl.toInt from rfl]; done) | (rw [show pl.toInt = pl.toInt from rfl]; exact hp_q)) (by omega) (by omega)) (call_b hC.ts TC_X10_at TN_X10 TM_X10_140 hd_X10_at ⟨Nat.le_of_ble_eq_true rfl, Nat.le_of_ble_eq_true rfl⟩) TI_X10_at TS_X10_at (ct_model G _ _) rfl rfl rfl (Nat.le_of_ble_eq_true rfl) dX10_looks_258 ⟨Nat.le_of_ble_eq_true rfl, Nat.le_of_ble_eq_true rfl⟩) hS (fun v_39 H locs w_40 hR hS => ?_)
                        subst w_40
                        refine ald hC hK hR (ct_m_ms G _ _) (nI_T _ (by omega)) (by omega) (by omega) (Int.toNat_natCast _) dX10_looks_261 ?_
                        have rd_41 : (s6 56 (24 * t.toInt.toNat + q)).toInt = (σ 56 (24 * t.toInt.toNat + q)).toInt := congrArg Int32.toInt (show s6 56 (24 * t.toInt.toNat + q) = σ 56 (24 * t.toInt.toNat + q) from congrFun (hi2_202.1 56 (by omega) (by first | omega | (dsimp only; omega) | (intro h; exact h))) (24 * t.toInt.toNat + q))
                        refine bz_le (tgt := 269) (a := (s6 56 (24 * t.toInt.toNat + q)).toInt) (b := 0) hC.x hC.b rfl rfl dX10_looks_262 (by decide) (fun c_42 => ?_) (fun c_42 => ?_)
                        · skip
                          refine lv_iconst (v := 0) hC.x hC.b dX10_looks_269 (by decide) ?_
                          refine lv_iload_n hC.x hC.b dX10_looks_270 rfl (lv_at hl 2 rfl) ?_
                          refine bz_le (tgt := 278) (a := ma.toInt) (b := 0) hC.x hC.b rfl rfl dX10_looks_271 (by decide) (fun c_43 => ?_) (fun c_43 => ?_)
                          · skip
                            refine lv_iconst (v := 0) hC.x hC.b dX10_looks_278 (by decide) ?_
                            refine bi_ne (tgt := 324) (a := 0) (b := 0) hC.x hC.b rfl rfl dX10_looks_279 (by decide) (fun c_44 => absurd c_44 (by decide)) (fun _ => ?_)
                            refine lv_aload_n hC.x hC.b dX10_looks_282 rfl (lv_at hl 0 rfl) ?_
                            refine rget hC hK hR (ct_model G _ _) rfl uin_X10 20 (by decide) TF_X10_71 rfl dX10_looks_283 ?_
                            refine lv_aload_n hC.x hC.b dX10_looks_286 rfl (lv_at hl 0 rfl) ?_
                            refine lv_iload hC.x hC.b dX10_looks_287 (lv_at hl 5 rfl) ?_
                            refine lv_iload_n hC.x hC.b dX10_looks_289 rfl (lv_at hl 1 rfl) ?_
                            refine goip (runV (As := [.int t, .int pl]) (rest := [.ref (G.2.1 56)]) hC hK hR hl.1 (c_X10_at l hG s6 t6 t t.toInt.toNat rfl pl q (by first | rfl | (rw [show pl.toInt = pl.toInt from rfl]; done) | (rw [show pl.toInt = pl.toInt from rfl]; exact hp_q)) (by omega) (by omega)) (call_b hC.ts TC_X10_at TN_X10 TM_X10_140 hd_X10_at ⟨Nat.le_of_ble_eq_true rfl, Nat.le_of_ble_eq_true rfl⟩) TI_X10_at TS_X10_at (ct_model G _ _) rfl rfl rfl (Nat.le_of_ble_eq_true rfl) dX10_looks_290 ⟨Nat.le_of_ble_eq_true rfl, Nat.le_of_ble_eq_true rfl⟩) hS (fun v_45 H locs w_46 hR hS => ?_)
                            subst w_46
                            refine ald hC hK hR (ct_m_ms G _ _) (nI_T _ (by omega)) (by omega) (by omega) (Int.toNat_natCast _) dX10_looks_293 ?_
                            have rd_47 : (s6 56 (24 * t.toInt.toNat + q)).toInt = (σ 56 (24 * t.toInt.toNat + q)).toInt := congrArg Int32.toInt (show s6 56 (24 * t.toInt.toNat + q) = σ 56 (24 * t.toInt.toNat + q) from congrFun (hi2_202.1 56 (by omega) (by first | omega | (dsimp only; omega) | (intro h; exact h))) (24 * t.toInt.toNat + q))
                            refine bz_eq (tgt := 324) (a := (s6 56 (24 * t.toInt.toNat + q)).toInt) (b := 0) hC.x hC.b rfl rfl dX10_looks_294 (by decide) (fun c_48 => ?_) (fun c_48 => ?_)
                            · skip
                              refine lv_iconst (v := 0) hC.x hC.b dX10_looks_324 (by decide) ?_
                              refine lv_istore (lv' := [(8, .int (0 : Int32)), (0, .ref (G.2.1 35)), (1, .int pl), (2, .int ma), (9, .int x9), (10, .int t)]) hC.x hC.b dX10_looks_325 hl (by decide) rfl (fun ls hl => ?_)
                              exact L_327 (0 : Int32) (by first | (left; decide) | (right; omega)) (by first | exact Or.inr ⟨by decide, d16_m (pM_n (fun z9 => absurd ((emp t.toInt).mpr z9) (by assumption)))⟩ | exact Or.inr ⟨by decide, d16_s (z := s6 56 (24 * t.toInt.toNat + q)) (by rw [e56]; exact (pM_v ((emp t.toInt).mp (by assumption))).symm) hdl.2 (by omega)⟩ | exact Or.inr ⟨by decide, d16_g (z := s6 56 (24 * t.toInt.toNat + q)) (pM_R hkm) (by rw [e56]; exact (pM_v ((emp t.toInt).mp (by assumption))).symm) (pM_y hkm ((emp t.toInt).mp (by assumption))) hdl.1 (by assumption) (by assumption) (by omega)⟩ | exact Or.inl ⟨by decide, d16_y (z := s6 56 (24 * t.toInt.toNat + q)) (pM_R hkm) (by rw [e56]; exact (pM_v ((emp t.toInt).mp (by assumption))).symm) (pM_y hkm ((emp t.toInt).mp (by assumption))) hdl.1 hdl.2 (by omega) (by omega) (by assumption) (by assumption) (by omega)⟩) _ _ _ hR hS (lv_sub hl [1, 2, 3, 0, 4, 5] rfl)
                            · skip
                              refine lv_aload_n hC.x hC.b dX10_looks_297 rfl (lv_at hl 0 rfl) ?_
                              refine rget hC hK hR (ct_model G _ _) rfl uin_X10 20 (by decide) TF_X10_71 rfl dX10_looks_298 ?_
                              refine lv_aload_n hC.x hC.b dX10_looks_301 rfl (lv_at hl 0 rfl) ?_
                              refine lv_iload hC.x hC.b dX10_looks_302 (lv_at hl 5 rfl) ?_
                              refine lv_iload_n hC.x hC.b dX10_looks_304 rfl (lv_at hl 1 rfl) ?_
                              refine goip (runV (As := [.int t, .int pl]) (rest := [.ref (G.2.1 56)]) hC hK hR hl.1 (c_X10_at l hG s6 t6 t t.toInt.toNat rfl pl q (by first | rfl | (rw [show pl.toInt = pl.toInt from rfl]; done) | (rw [show pl.toInt = pl.toInt from rfl]; exact hp_q)) (by omega) (by omega)) (call_b hC.ts TC_X10_at TN_X10 TM_X10_140 hd_X10_at ⟨Nat.le_of_ble_eq_true rfl, Nat.le_of_ble_eq_true rfl⟩) TI_X10_at TS_X10_at (ct_model G _ _) rfl rfl rfl (Nat.le_of_ble_eq_true rfl) dX10_looks_305 ⟨Nat.le_of_ble_eq_true rfl, Nat.le_of_ble_eq_true rfl⟩) hS (fun v_49 H locs w_50 hR hS => ?_)
                              subst w_50
                              refine ald hC hK hR (ct_m_ms G _ _) (nI_T _ (by omega)) (by omega) (by omega) (Int.toNat_natCast _) dX10_looks_308 ?_
                              have rd_51 : (s6 56 (24 * t.toInt.toNat + q)).toInt = (σ 56 (24 * t.toInt.toNat + q)).toInt := congrArg Int32.toInt (show s6 56 (24 * t.toInt.toNat + q) = σ 56 (24 * t.toInt.toNat + q) from congrFun (hi2_202.1 56 (by omega) (by first | omega | (dsimp only; omega) | (intro h; exact h))) (24 * t.toInt.toNat + q))
                              refine goip (runS (As := [.int (s6 56 (24 * t.toInt.toNat + q))]) (rest := []) hC hK hR hl.1 (c5_X10_amount l hG s6 t6 (s6 56 (24 * t.toInt.toNat + q)) ) (call_b hC.ts TC_X10_amount TN_X10 TM_X10_248 hd_X10_amount ⟨Nat.le_of_ble_eq_true rfl, Nat.le_of_ble_eq_true rfl⟩) TT_X10_amount rfl rfl (Nat.le_of_ble_eq_true rfl) dX10_looks_309 ⟨Nat.le_of_ble_eq_true rfl, Nat.le_of_ble_eq_true rfl⟩) hS (fun v_52 H locs w_53 hR hS => ?_)
                              have f_54 := w_53
                              refine lv_iload hC.x hC.b dX10_looks_312 (lv_at hl 4 rfl) ?_
                              refine goip (runS (As := [.int x9]) (rest := [.int v_52]) hC hK hR hl.1 (c5_X10_amount l hG s6 t6 x9 ) (call_b hC.ts TC_X10_amount TN_X10 TM_X10_248 hd_X10_amount ⟨Nat.le_of_ble_eq_true rfl, Nat.le_of_ble_eq_true rfl⟩) TT_X10_amount rfl rfl (Nat.le_of_ble_eq_true rfl) dX10_looks_314 ⟨Nat.le_of_ble_eq_true rfl, Nat.le_of_ble_eq_true rfl⟩) hS (fun v_55 H locs w_56 hR hS => ?_)
                              have f_57 := w_56
                              refine bi_ge (tgt := 324) (a := v_52.toInt) (b := v_55.toInt) hC.x hC.b rfl rfl dX10_looks_317 (by decide) (fun c_58 => ?_) (fun c_58 => ?_)
                              · skip
                                refine lv_iconst (v := 0) hC.x hC.b dX10_looks_324 (by decide) ?_
                                refine lv_istore (lv' := [(8, .int (0 : Int32)), (0, .ref (G.2.1 35)), (1, .int pl), (2, .int ma), (9, .int x9), (10, .int t)]) hC.x hC.b dX10_looks_325 hl (by decide) rfl (fun ls hl => ?_)
                                exact L_327 (0 : Int32) (by first | (left; decide) | (right; omega)) (by first | exact Or.inr ⟨by decide, d16_m (pM_n (fun z9 => absurd ((emp t.toInt).mpr z9) (by assumption)))⟩ | exact Or.inr ⟨by decide, d16_s (z := s6 56 (24 * t.toInt.toNat + q)) (by rw [e56]; exact (pM_v ((emp t.toInt).mp (by assumption))).symm) hdl.2 (by omega)⟩ | exact Or.inr ⟨by decide, d16_g (z := s6 56 (24 * t.toInt.toNat + q)) (pM_R hkm) (by rw [e56]; exact (pM_v ((emp t.toInt).mp (by assumption))).symm) (pM_y hkm ((emp t.toInt).mp (by assumption))) hdl.1 (by assumption) (by assumption) (by omega)⟩ | exact Or.inl ⟨by decide, d16_y (z := s6 56 (24 * t.toInt.toNat + q)) (pM_R hkm) (by rw [e56]; exact (pM_v ((emp t.toInt).mp (by assumption))).symm) (pM_y hkm ((emp t.toInt).mp (by assumption))) hdl.1 hdl.2 (by omega) (by omega) (by assumption) (by assumption) (by omega)⟩) _ _ _ hR hS (lv_sub hl [1, 2, 3, 0, 4, 5] rfl)
                              · skip
                                refine lv_iconst (v := 1) hC.x hC.b dX10_looks_320 (by decide) ?_
                                refine lv_goto (tgt := 325) hC.x hC.b dX10_looks_321 (by decide) ?_
                                refine lv_istore (lv' := [(8, .int (1 : Int32)), (0, .ref (G.2.1 35)), (1, .int pl), (2, .int ma), (9, .int x9), (10, .int t)]) hC.x hC.b dX10_looks_325 hl (by decide) rfl (fun ls hl => ?_)
                                exact L_327 (1 : Int32) (by first | (left; decide) | (right; omega)) (by first | exact Or.inr ⟨by decide, d16_m (pM_n (fun z9 => absurd ((emp t.toInt).mpr z9) (by assumption)))⟩ | exact Or.inr ⟨by decide, d16_s (z := s6 56 (24 * t.toInt.toNat + q)) (by rw [e56]; exact (pM_v ((emp t.toInt).mp (by assumption))).symm) hdl.2 (by omega)⟩ | exact Or.inr ⟨by decide, d16_g (z := s6 56 (24 * t.toInt.toNat + q)) (pM_R hkm) (by rw [e56]; exact (pM_v ((emp t.toInt).mp (by assumption))).symm) (pM_y hkm ((emp t.toInt).mp (by assumption))) hdl.1 (by assumption) (by assumption) (by omega)⟩ | exact Or.inl ⟨by decide, d16_y (z := s6 56 (24 * t.toInt.toNat + q)) (pM_R hkm) (by rw [e56]; exact (pM_v ((emp t.toInt).mp (by assumption))).symm) (pM_y hkm ((emp t.toInt).mp (by assumption))) hdl.1 hdl.2 (by omega) (by omega) (by assumption) (by assumption) (by omega)⟩) _ _ _ hR hS (lv_sub hl [1, 2, 3, 0, 4, 5] rfl)
                          · skip
                            refine lv_iconst (v := 1) hC.x hC.b dX10_looks_274 (by decide) ?_
                            refine lv_goto (tgt := 279) hC.x hC.b dX10_looks_275 (by decide) ?_
                            refine bi_ne (tgt := 324) (a := 0) (b := 1) hC.x hC.b rfl rfl dX10_looks_279 (by decide) (fun _ => ?_) (fun c_59 => absurd c_59 (by decide))
                            refine lv_iconst (v := 0) hC.x hC.b dX10_looks_324 (by decide) ?_
                            refine lv_istore (lv' := [(8, .int (0 : Int32)), (0, .ref (G.2.1 35)), (1, .int pl), (2, .int ma), (9, .int x9), (10, .int t)]) hC.x hC.b dX10_looks_325 hl (by decide) rfl (fun ls hl => ?_)
                            exact L_327 (0 : Int32) (by first | (left; decide) | (right; omega)) (by first | exact Or.inr ⟨by decide, d16_m (pM_n (fun z9 => absurd ((emp t.toInt).mpr z9) (by assumption)))⟩ | exact Or.inr ⟨by decide, d16_s (z := s6 56 (24 * t.toInt.toNat + q)) (by rw [e56]; exact (pM_v ((emp t.toInt).mp (by assumption))).symm) hdl.2 (by omega)⟩ | exact Or.inr ⟨by decide, d16_g (z := s6 56 (24 * t.toInt.toNat + q)) (pM_R hkm) (by rw [e56]; exact (pM_v ((emp t.toInt).mp (by assumption))).symm) (pM_y hkm ((emp t.toInt).mp (by assumption))) hdl.1 (by assumption) (by assumption) (by omega)⟩ | exact Or.inl ⟨by decide, d16_y (z := s6 56 (24 * t.toInt.toNat + q)) (pM_R hkm) (by rw [e56]; exact (pM_v ((emp t.toInt).mp (by assumption))).symm) (pM_y hkm ((emp t.toInt).mp (by assumption))) hdl.1 hdl.2 (by omega) (by omega) (by assumption) (by assumption) (by omega)⟩) _ _ _ hR hS (lv_sub hl [1, 2, 3, 0, 4, 5] rfl)
                        · skip
                          refine lv_iconst (v := 1) hC.x hC.b dX10_looks_265 (by decide) ?_
                          refine lv_goto (tgt := 270) hC.x hC.b dX10_looks_266 (by decide) ?_
                          refine lv_iload_n hC.x hC.b dX10_looks_270 rfl (lv_at hl 2 rfl) ?_
                          refine bz_le (tgt := 278) (a := ma.toInt) (b := 0) hC.x hC.b rfl rfl dX10_looks_271 (by decide) (fun c_60 => ?_) (fun c_60 => ?_)
                          · skip
                            refine lv_iconst (v := 0) hC.x hC.b dX10_looks_278 (by decide) ?_
                            refine bi_ne (tgt := 324) (a := 1) (b := 0) hC.x hC.b rfl rfl dX10_looks_279 (by decide) (fun _ => ?_) (fun c_61 => absurd c_61 (by decide))
                            refine lv_iconst (v := 0) hC.x hC.b dX10_looks_324 (by decide) ?_
                            refine lv_istore (lv' := [(8, .int (0 : Int32)), (0, .ref (G.2.1 35)), (1, .int pl), (2, .int ma), (9, .int x9), (10, .int t)]) hC.x hC.b dX10_looks_325 hl (by decide) rfl (fun ls hl => ?_)
                            exact L_327 (0 : Int32) (by first | (left; decide) | (right; omega)) (by first | exact Or.inr ⟨by decide, d16_m (pM_n (fun z9 => absurd ((emp t.toInt).mpr z9) (by assumption)))⟩ | exact Or.inr ⟨by decide, d16_s (z := s6 56 (24 * t.toInt.toNat + q)) (by rw [e56]; exact (pM_v ((emp t.toInt).mp (by assumption))).symm) hdl.2 (by omega)⟩ | exact Or.inr ⟨by decide, d16_g (z := s6 56 (24 * t.toInt.toNat + q)) (pM_R hkm) (by rw [e56]; exact (pM_v ((emp t.toInt).mp (by assumption))).symm) (pM_y hkm ((emp t.toInt).mp (by assumption))) hdl.1 (by assumption) (by assumption) (by omega)⟩ | exact Or.inl ⟨by decide, d16_y (z := s6 56 (24 * t.toInt.toNat + q)) (pM_R hkm) (by rw [e56]; exact (pM_v ((emp t.toInt).mp (by assumption))).symm) (pM_y hkm ((emp t.toInt).mp (by assumption))) hdl.1 hdl.2 (by omega) (by omega) (by assumption) (by assumption) (by omega)⟩) _ _ _ hR hS (lv_sub hl [1, 2, 3, 0, 4, 5] rfl)
                          · skip
                            refine lv_iconst (v := 1) hC.x hC.b dX10_looks_274 (by decide) ?_
                            refine lv_goto (tgt := 279) hC.x hC.b dX10_looks_275 (by decide) ?_
                            refine bi_ne (tgt := 324) (a := 1) (b := 1) hC.x hC.b rfl rfl dX10_looks_279 (by decide) (fun c_62 => absurd c_62 (by decide)) (fun _ => ?_)
                            refine lv_aload_n hC.x hC.b dX10_looks_282 rfl (lv_at hl 0 rfl) ?_
                            refine rget hC hK hR (ct_model G _ _) rfl uin_X10 20 (by decide) TF_X10_71 rfl dX10_looks_283 ?_
                            refine lv_aload_n hC.x hC.b dX10_looks_286 rfl (lv_at hl 0 rfl) ?_
                            refine lv_iload hC.x hC.b dX10_looks_287 (lv_at hl 5 rfl) ?_
                            refine lv_iload_n hC.x hC.b dX10_looks_289 rfl (lv_at hl 1 rfl) ?_
                            refine goip (runV (As := [.int t, .int pl]) (rest := [.ref (G.2.1 56)]) hC hK hR hl.1 (c_X10_at l hG s6 t6 t t.toInt.toNat rfl pl q (by first | rfl | (rw [show pl.toInt = pl.toInt from rfl]; done) | (rw [show pl.toInt = pl.toInt from rfl]; exact hp_q)) (by omega) (by omega)) (call_b hC.ts TC_X10_at TN_X10 TM_X10_140 hd_X10_at ⟨Nat.le_of_ble_eq_true rfl, Nat.le_of_ble_eq_true rfl⟩) TI_X10_at TS_X10_at (ct_model G _ _) rfl rfl rfl (Nat.le_of_ble_eq_true rfl) dX10_looks_290 ⟨Nat.le_of_ble_eq_true rfl, Nat.le_of_ble_eq_true rfl⟩) hS (fun v_63 H locs w_64 hR hS => ?_)
                            subst w_64
                            refine ald hC hK hR (ct_m_ms G _ _) (nI_T _ (by omega)) (by omega) (by omega) (Int.toNat_natCast _) dX10_looks_293 ?_
                            have rd_65 : (s6 56 (24 * t.toInt.toNat + q)).toInt = (σ 56 (24 * t.toInt.toNat + q)).toInt := congrArg Int32.toInt (show s6 56 (24 * t.toInt.toNat + q) = σ 56 (24 * t.toInt.toNat + q) from congrFun (hi2_202.1 56 (by omega) (by first | omega | (dsimp only; omega) | (intro h; exact h))) (24 * t.toInt.toNat + q))
                            refine bz_eq (tgt := 324) (a := (s6 56 (24 * t.toInt.toNat + q)).toInt) (b := 0) hC.x hC.b rfl rfl dX10_looks_294 (by decide) (fun c_66 => ?_) (fun c_66 => ?_)
                            · skip
                              refine lv_iconst (v := 0) hC.x hC.b dX10_looks_324 (by decide) ?_
                              refine lv_istore (lv' := [(8, .int (0 : Int32)), (0, .ref (G.2.1 35)), (1, .int pl), (2, .int ma), (9, .int x9), (10, .int t)]) hC.x hC.b dX10_looks_325 hl (by decide) rfl (fun ls hl => ?_)
                              exact L_327 (0 : Int32) (by first | (left; decide) | (right; omega)) (by first | exact Or.inr ⟨by decide, d16_m (pM_n (fun z9 => absurd ((emp t.toInt).mpr z9) (by assumption)))⟩ | exact Or.inr ⟨by decide, d16_s (z := s6 56 (24 * t.toInt.toNat + q)) (by rw [e56]; exact (pM_v ((emp t.toInt).mp (by assumption))).symm) hdl.2 (by omega)⟩ | exact Or.inr ⟨by decide, d16_g (z := s6 56 (24 * t.toInt.toNat + q)) (pM_R hkm) (by rw [e56]; exact (pM_v ((emp t.toInt).mp (by assumption))).symm) (pM_y hkm ((emp t.toInt).mp (by assumption))) hdl.1 (by assumption) (by assumption) (by omega)⟩ | exact Or.inl ⟨by decide, d16_y (z := s6 56 (24 * t.toInt.toNat + q)) (pM_R hkm) (by rw [e56]; exact (pM_v ((emp t.toInt).mp (by assumption))).symm) (pM_y hkm ((emp t.toInt).mp (by assumption))) hdl.1 hdl.2 (by omega) (by omega) (by assumption) (by assumption) (by omega)⟩) _ _ _ hR hS (lv_sub hl [1, 2, 3, 0, 4, 5] rfl)
                            · skip
                              refine lv_aload_n hC.x hC.b dX10_looks_297 rfl (lv_at hl 0 rfl) ?_
                              refine rget hC hK hR (ct_model G _ _) rfl uin_X10 20 (by decide) TF_X10_71 rfl dX10_looks_298 ?_
                              refine lv_aload_n hC.x hC.b dX10_looks_301 rfl (lv_at hl 0 rfl) ?_
                              refine lv_iload hC.x hC.b dX10_looks_302 (lv_at hl 5 rfl) ?_
                              refine lv_iload_n hC.x hC.b dX10_looks_304 rfl (lv_at hl 1 rfl) ?_
                              refine goip (runV (As := [.int t, .int pl]) (rest := [.ref (G.2.1 56)]) hC hK hR hl.1 (c_X10_at l hG s6 t6 t t.toInt.toNat rfl pl q (by first | rfl | (rw [show pl.toInt = pl.toInt from rfl]; done) | (rw [show pl.toInt = pl.toInt from rfl]; exact hp_q)) (by omega) (by omega)) (call_b hC.ts TC_X10_at TN_X10 TM_X10_140 hd_X10_at ⟨Nat.le_of_ble_eq_true rfl, Nat.le_of_ble_eq_true rfl⟩) TI_X10_at TS_X10_at (ct_model G _ _) rfl rfl rfl (Nat.le_of_ble_eq_true rfl) dX10_looks_305 ⟨Nat.le_of_ble_eq_true rfl, Nat.le_of_ble_eq_true rfl⟩) hS (fun v_67 H locs w_68 hR hS => ?_)
                              subst w_68
                              refine ald hC hK hR (ct_m_ms G _ _) (nI_T _ (by omega)) (by omega) (by omega) (Int.toNat_natCast _) dX10_looks_308 ?_
                              have rd_69 : (s6 56 (24 * t.toInt.toNat + q)).toInt = (σ 56 (24 * t.toInt.toNat + q)).toInt := congrArg Int32.toInt (show s6 56 (24 * t.toInt.toNat + q) = σ 56 (24 * t.toInt.toNat + q) from congrFun (hi2_202.1 56 (by omega) (by first | omega | (dsimp only; omega) | (intro h; exact h))) (24 * t.toInt.toNat + q))
                              refine goip (runS (As := [.int (s6 56 (24 * t.toInt.toNat + q))]) (rest := []) hC hK hR hl.1 (c5_X10_amount l hG s6 t6 (s6 56 (24 * t.toInt.toNat + q)) ) (call_b hC.ts TC_X10_amount TN_X10 TM_X10_248 hd_X10_amount ⟨Nat.le_of_ble_eq_true rfl, Nat.le_of_ble_eq_true rfl⟩) TT_X10_amount rfl rfl (Nat.le_of_ble_eq_true rfl) dX10_looks_309 ⟨Nat.le_of_ble_eq_true rfl, Nat.le_of_ble_eq_true rfl⟩) hS (fun v_70 H locs w_71 hR hS => ?_)
                              have f_72 := w_71
                              refine lv_iload hC.x hC.b dX10_looks_312 (lv_at hl 4 rfl) ?_
                              refine goip (runS (As := [.int x9]) (rest := [.int v_70]) hC hK hR hl.1 (c5_X10_amount l hG s6 t6 x9 ) (call_b hC.ts TC_X10_amount TN_X10 TM_X10_248 hd_X10_amount ⟨Nat.le_of_ble_eq_true rfl, Nat.le_of_ble_eq_true rfl⟩) TT_X10_amount rfl rfl (Nat.le_of_ble_eq_true rfl) dX10_looks_314 ⟨Nat.le_of_ble_eq_true rfl, Nat.le_of_ble_eq_true rfl⟩) hS (fun v_73 H locs w_74 hR hS => ?_)
                              have f_75 := w_74
                              refine bi_ge (tgt := 324) (a := v_70.toInt) (b := v_73.toInt) hC.x hC.b rfl rfl dX10_looks_317 (by decide) (fun c_76 => ?_) (fun c_76 => ?_)
                              · skip
                                refine lv_iconst (v := 0) hC.x hC.b dX10_looks_324 (by decide) ?_
                                refine lv_istore (lv' := [(8, .int (0 : Int32)), (0, .ref (G.2.1 35)), (1, .int pl), (2, .int ma), (9, .int x9), (10, .int t)]) hC.x hC.b dX10_looks_325 hl (by decide) rfl (fun ls hl => ?_)
                                exact L_327 (0 : Int32) (by first | (left; decide) | (right; omega)) (by first | exact Or.inr ⟨by decide, d16_m (pM_n (fun z9 => absurd ((emp t.toInt).mpr z9) (by assumption)))⟩ | exact Or.inr ⟨by decide, d16_s (z := s6 56 (24 * t.toInt.toNat + q)) (by rw [e56]; exact (pM_v ((emp t.toInt).mp (by assumption))).symm) hdl.2 (by omega)⟩ | exact Or.inr ⟨by decide, d16_g (z := s6 56 (24 * t.toInt.toNat + q)) (pM_R hkm) (by rw [e56]; exact (pM_v ((emp t.toInt).mp (by assumption))).symm) (pM_y hkm ((emp t.toInt).mp (by assumption))) hdl.1 (by assumption) (by assumption) (by omega)⟩ | exact Or.inl ⟨by decide, d16_y (z := s6 56 (24 * t.toInt.toNat + q)) (pM_R hkm) (by rw [e56]; exact (pM_v ((emp t.toInt).mp (by assumption))).symm) (pM_y hkm ((emp t.toInt).mp (by assumption))) hdl.1 hdl.2 (by omega) (by omega) (by assumption) (by assumption) (by omega)⟩) _ _ _ hR hS (lv_sub hl [1, 2, 3, 0, 4, 5] rfl)
                              · skip
                                refine lv_iconst (v := 1) hC.x hC.b dX10_looks_320 (by decide) ?_
                                refine lv_goto (tgt := 325) hC.x hC.b dX10_looks_321 (by decide) ?_
                                refine lv_istore (lv' := [(8, .int (1 : Int32)), (0, .ref (G.2.1 35)), (1, .int pl), (2, .int ma), (9, .int x9), (10, .int t)]) hC.x hC.b dX10_looks_325 hl (by decide) rfl (fun ls hl => ?_)
                                exact L_327 (1 : Int32) (by first | (left; decide) | (right; omega)) (by first | exact Or.inr ⟨by decide, d16_m (pM_n (fun z9 => absurd ((emp t.toInt).mpr z9) (by assumption)))⟩ | exact Or.inr ⟨by decide, d16_s (z := s6 56 (24 * t.toInt.toNat + q)) (by rw [e56]; exact (pM_v ((emp t.toInt).mp (by assumption))).symm) hdl.2 (by omega)⟩ | exact Or.inr ⟨by decide, d16_g (z := s6 56 (24 * t.toInt.toNat + q)) (pM_R hkm) (by rw [e56]; exact (pM_v ((emp t.toInt).mp (by assumption))).symm) (pM_y hkm ((emp t.toInt).mp (by assumption))) hdl.1 (by assumption) (by assumption) (by omega)⟩ | exact Or.inl ⟨by decide, d16_y (z := s6 56 (24 * t.toInt.toNat + q)) (pM_R hkm) (by rw [e56]; exact (pM_v ((emp t.toInt).mp (by assumption))).symm) (pM_y hkm ((emp t.toInt).mp (by assumption))) hdl.1 hdl.2 (by omega) (by omega) (by assumption) (by assumption) (by omega)⟩) _ _ _ hR hS (lv_sub hl [1, 2, 3, 0, 4, 5] rfl)
                      · skip
                        refine bz_eq (tgt := 324) (a := 0) (b := 0) hC.x hC.b rfl rfl dX10_looks_247 (by decide) (fun _ => ?_) (fun c_77 => absurd c_77 (by decide))
                        refine lv_iconst (v := 0) hC.x hC.b dX10_looks_324 (by decide) ?_
                        refine lv_istore (lv' := [(8, .int (0 : Int32)), (0, .ref (G.2.1 35)), (1, .int pl), (2, .int ma), (9, .int x9), (10, .int t)]) hC.x hC.b dX10_looks_325 hl (by decide) rfl (fun ls hl => ?_)
                        exact L_327 (0 : Int32) (by first | (left; decide) | (right; omega)) (by first | exact Or.inr ⟨by decide, d16_m (pM_n (fun z9 => absurd ((emp t.toInt).mpr z9) (by assumption)))⟩ | exact Or.inr ⟨by decide, d16_s (z := s6 56 (24 * t.toInt.toNat + q)) (by rw [e56]; exact (pM_v ((emp t.toInt).mp (by assumption))).symm) hdl.2 (by omega)⟩ | exact Or.inr ⟨by decide, d16_g (z := s6 56 (24 * t.toInt.toNat + q)) (pM_R hkm) (by rw [e56]; exact (pM_v ((emp t.toInt).mp (by assumption))).symm) (pM_y hkm ((emp t.toInt).mp (by assumption))) hdl.1 (by assumption) (by assumption) (by omega)⟩ | exact Or.inl ⟨by decide, d16_y (z := s6 56 (24 * t.toInt.toNat + q)) (pM_R hkm) (by rw [e56]; exact (pM_v ((emp t.toInt).mp (by assumption))).symm) (pM_y hkm ((emp t.toInt).mp (by assumption))) hdl.1 hdl.2 (by omega) (by omega) (by assumption) (by assumption) (by omega)⟩) _ _ _ hR hS (lv_sub hl [1, 2, 3, 0, 4, 5] rfl)
              exact L_224 _ x8 ma x_5 (Nat.lt_succ_self _) (by first | omega | assumption) (by exact DL6.st hma hi0_213 (by omega)) _ _ _ hR hS (lv_sub hl [2, 3, 4, 5, 1, 0] rfl)
            refine lv_iload_n hC.x hC.b dX10_looks_202 rfl (lv_at hl 2 rfl) ?_
            refine bz_eq (tgt := 210) (a := ma.toInt) (b := 0) hC.x hC.b rfl rfl dX10_looks_203 (by decide) (fun c_78 => ?_) (fun c_78 => ?_)
            · skip
              refine lv_iconst (v := 0) hC.x hC.b dX10_looks_210 (by decide) ?_
              refine lv_istore (lv' := [(8, .int (0 : Int32)), (0, .ref (G.2.1 35)), (1, .int pl), (2, .int ma)]) hC.x hC.b dX10_looks_211 hl (by decide) rfl (fun ls hl => ?_)
              exact L_213 (0 : Int32) (by first | exact Or.inl ⟨by decide, by omega⟩ | exact Or.inr ⟨by decide, by omega⟩) _ _ _ hR hS (lv_sub hl [1, 2, 3, 0] rfl)
            · skip
              refine lv_iconst (v := 1) hC.x hC.b dX10_looks_206 (by decide) ?_
              refine lv_goto (tgt := 211) hC.x hC.b dX10_looks_207 (by decide) ?_
              refine lv_istore (lv' := [(8, .int (1 : Int32)), (0, .ref (G.2.1 35)), (1, .int pl), (2, .int ma)]) hC.x hC.b dX10_looks_211 hl (by decide) rfl (fun ls hl => ?_)
              exact L_213 (1 : Int32) (by first | exact Or.inl ⟨by decide, by omega⟩ | exact Or.inr ⟨by decide, by omega⟩) _ _ _ hR hS (lv_sub hl [1, 2, 3, 0] rfl)
          have hsu := hkm.2.1 q
          refine lv_aload_n hC.x hC.b dX10_looks_84 rfl (lv_at hl 0 rfl) ?_
          refine rget hC hK hR (ct_model G _ _) rfl uin_X10 8 (by decide) TF_X10_35 rfl dX10_looks_85 ?_
          refine lv_iload_n hC.x hC.b dX10_looks_88 rfl (lv_at hl 1 rfl) ?_
          refine ald hC hK hR (ct_m_suspect G _ _) rfl (by omega) (by omega) hp_q dX10_looks_89 ?_
          refine lv_aload_n hC.x hC.b dX10_looks_90 rfl (lv_at hl 0 rfl) ?_
          refine rget hC hK hR (ct_model G _ _) rfl uin_X10 29 (by decide) TF_X10_137 rfl dX10_looks_91 ?_
          refine lv_iconst (v := 1) hC.x hC.b dX10_looks_94 (by decide) ?_
          refine lv_isub hC.x hC.b dX10_looks_95 ?_
          have pr_79 : ((σ 35 29) - (1 : Int32)).toInt = ((σ 35 29).toInt - 1) := subI rfl rfl (by omega) (by omega)
          refine bi_ne (tgt := 173) (a := (σ 44 q).toInt) (b := ((σ 35 29).toInt - 1)) hC.x hC.b rfl pr_79 dX10_looks_96 (by decide) (fun c_80 => ?_) (fun c_80 => ?_)
          · skip
            refine lv_iload_n hC.x hC.b dX10_looks_173 rfl (lv_at hl 2 rfl) ?_
            refine goip (runS (As := [.int ma]) (rest := []) hC hK hR hl.1 (c5_X10_amount l hG σ τ ma ) (call_b hC.ts TC_X10_amount TN_X10 TM_X10_248 hd_X10_amount ⟨Nat.le_of_ble_eq_true rfl, Nat.le_of_ble_eq_true rfl⟩) TT_X10_amount rfl rfl (Nat.le_of_ble_eq_true rfl) dX10_looks_174 ⟨Nat.le_of_ble_eq_true rfl, Nat.le_of_ble_eq_true rfl⟩) hS (fun v_81 H locs w_82 hR hS => ?_)
            have f_83 := w_82
            refine lv_i2l hC.x hC.b dX10_looks_177 rfl ?_
            refine lv_aload_n hC.x hC.b dX10_looks_178 rfl (lv_at hl 0 rfl) ?_
            refine rget hC hK hR (ct_model G _ _) rfl uin_X10 31 (by decide) TF_X10_102 rfl dX10_looks_179 ?_
            refine lv_i2l hC.x hC.b dX10_looks_182 rfl ?_
            refine lv_lload hC.x hC.b dX10_looks_183 (lv_at hl 3 rfl) ?_
            refine lv_lconst (v := 1) hC.x hC.b dX10_looks_185 (by decide) ?_
            refine lv_ladd hC.x hC.b dX10_looks_186 ?_
            refine lv_lmul hC.x hC.b dX10_looks_187 ?_
            refine bl_le (tgt := 202) (a := v_81.toInt) (b := ((σ 35 31).toInt64 * (x6 + (1 : Int64))).toInt) hC.x hC.b (i2lI rfl) rfl dX10_looks_188 dX10_looks_189 (by decide) (fun c_84 => ?_) (fun c_84 => ?_)
            · skip
              exact L_202 σ τ (by exact hkm) (by exact ls_k hma (by omega) (by assumption) hi0_84 (by omega)) MRel.rf _ _ _ hR hS (lv_sub hl [0, 1, 2] rfl)
            · skip
              refine lv_aload_n hC.x hC.b dX10_looks_192 rfl (lv_at hl 0 rfl) ?_
              refine rget hC hK hR (ct_model G _ _) rfl uin_X10 8 (by decide) TF_X10_35 rfl dX10_looks_193 ?_
              refine lv_iload_n hC.x hC.b dX10_looks_196 rfl (lv_at hl 1 rfl) ?_
              refine lv_aload_n hC.x hC.b dX10_looks_197 rfl (lv_at hl 0 rfl) ?_
              refine rget hC hK hR (ct_model G _ _) rfl uin_X10 29 (by decide) TF_X10_137 rfl dX10_looks_198 ?_
              refine ast hC hK hG hR hS (fun _ => ct_m_suspect G _ _) rfl (by omega) (by omega) hp_q dX10_looks_201 (fun s_85 es_86 H locs hR hS => ?_)
              exact L_202 s_85 τ (by exact (by rw [es_86]; exact KM.u44 hkm (by first | omega | decide))) (by exact ls_l hma (by omega) (by assumption) hi0_84 (by omega) es_86) (by rw [es_86]; exact MRel.up (MRel.rf) (by omega) (by first | omega | (dsimp only; omega))) _ _ _ hR hS (lv_sub hl [0, 1, 2] rfl)
          · skip
            refine lv_aload_n hC.x hC.b dX10_looks_99 rfl (lv_at hl 0 rfl) ?_
            refine rget hC hK hR (ct_model G _ _) rfl uin_X10 20 (by decide) TF_X10_71 rfl dX10_looks_100 ?_
            refine lv_aload_n hC.x hC.b dX10_looks_103 rfl (lv_at hl 0 rfl) ?_
            refine lv_aload_n hC.x hC.b dX10_looks_104 rfl (lv_at hl 0 rfl) ?_
            refine rget hC hK hR (ct_model G _ _) rfl uin_X10 29 (by decide) TF_X10_137 rfl dX10_looks_105 ?_
            refine lv_iconst (v := 1) hC.x hC.b dX10_looks_108 (by decide) ?_
            refine lv_isub hC.x hC.b dX10_looks_109 ?_
            refine lv_iload_n hC.x hC.b dX10_looks_110 rfl (lv_at hl 1 rfl) ?_
            refine goip (runV (As := [.int ((σ 35 29) - (1 : Int32)), .int pl]) (rest := [.ref (G.2.1 56)]) hC hK hR hl.1 (c_X10_at l hG σ τ ((σ 35 29) - (1 : Int32)) ((((σ 35 29) - (1 : Int32)).toInt).toNat) (by first | rfl | (rw [show ((σ 35 29) - (1 : Int32)).toInt = ((σ 35 29) - (1 : Int32)).toInt from rfl]; done) | (rw [show ((σ 35 29) - (1 : Int32)).toInt = ((σ 35 29) - (1 : Int32)).toInt from rfl]; exact rfl)) pl q (by first | rfl | (rw [show pl.toInt = pl.toInt from rfl]; done) | (rw [show pl.toInt = pl.toInt from rfl]; exact hp_q)) (by omega) (by omega)) (call_b hC.ts TC_X10_at TN_X10 TM_X10_140 hd_X10_at ⟨Nat.le_of_ble_eq_true rfl, Nat.le_of_ble_eq_true rfl⟩) TI_X10_at TS_X10_at (ct_model G _ _) rfl rfl rfl (Nat.le_of_ble_eq_true rfl) dX10_looks_111 ⟨Nat.le_of_ble_eq_true rfl, Nat.le_of_ble_eq_true rfl⟩) hS (fun v_87 H locs w_88 hR hS => ?_)
            subst w_88
            refine ald hC hK hR (ct_m_ms G _ _) (nI_T _ (by omega)) (by omega) (by omega) (Int.toNat_natCast _) dX10_looks_114 ?_
            refine lv_topi (fun x_89 ex_90 => ?_)
            refine lv_istore (lv' := [(8, .int x_89), (0, .ref (G.2.1 35)), (1, .int pl), (2, .int ma), (6, .long x6)]) hC.x hC.b dX10_looks_115 hl (by decide) rfl (fun ls hl => ?_)
            have L_142 : ∀ (x8 : Int32) (x9 : Int32), ((x9.toInt = 1 ∧ sg6 x8 ma) ∨ (x9.toInt = 0 ∧ ¬ sg6 x8 ma)) → (x8 = σ 56 (24 * ((σ 35 29).toInt - 1).toNat + q)) → ∀ (H : Heap) (locs : List Loc) (ls : Array Slot), RepH G σ τ H → va_S A s.heap H locs → lv_has ls 11 [(0, .ref (G.2.1 35)), (1, .int pl), (2, .int ma), (6, .long x6), (8, .int x8), (9, .int x9)] → W p l e (rmD 3) s m args below meth c H locs 0 0 (MQ below (va_Qv (po7_X10_looks σ τ pl q ma) (BU G) A) args s 0 0 A) (F0 m 142 ls []) := by
              intro x8 x9 hi0_142 hi1_142 H locs ls hR hS hl
              refine lv_iload hC.x hC.b dX10_looks_142 (lv_at hl 5 rfl) ?_
              refine bz_eq (tgt := 170) (a := x9.toInt) (b := 0) hC.x hC.b rfl rfl dX10_looks_144 (by decide) (fun c_91 => ?_) (fun c_91 => ?_)
              · skip
                refine lv_goto (tgt := 202) hC.x hC.b dX10_looks_170 (by decide) ?_
                exact L_202 σ τ (by exact hkm) (by exact ls_n hsu6 (by omega) hi1_142 (by rintro ⟨h1, h2⟩; omega)) MRel.rf _ _ _ hR hS (lv_sub hl [0, 1, 2] rfl)
              · skip
                refine lv_iload_n hC.x hC.b dX10_looks_147 rfl (lv_at hl 2 rfl) ?_
                refine goip (runS (As := [.int ma]) (rest := []) hC hK hR hl.1 (c5_X10_amount l hG σ τ ma ) (call_b hC.ts TC_X10_amount TN_X10 TM_X10_248 hd_X10_amount ⟨Nat.le_of_ble_eq_true rfl, Nat.le_of_ble_eq_true rfl⟩) TT_X10_amount rfl rfl (Nat.le_of_ble_eq_true rfl) dX10_looks_148 ⟨Nat.le_of_ble_eq_true rfl, Nat.le_of_ble_eq_true rfl⟩) hS (fun v_92 H locs w_93 hR hS => ?_)
                have f_94 := w_93
                refine lv_iload hC.x hC.b dX10_looks_151 (lv_at hl 4 rfl) ?_
                refine goip (runS (As := [.int x8]) (rest := [.int v_92]) hC hK hR hl.1 (c5_X10_amount l hG σ τ x8 ) (call_b hC.ts TC_X10_amount TN_X10 TM_X10_248 hd_X10_amount ⟨Nat.le_of_ble_eq_true rfl, Nat.le_of_ble_eq_true rfl⟩) TT_X10_amount rfl rfl (Nat.le_of_ble_eq_true rfl) dX10_looks_153 ⟨Nat.le_of_ble_eq_true rfl, Nat.le_of_ble_eq_true rfl⟩) hS (fun v_95 H locs w_96 hR hS => ?_)
                have f_97 := w_96
                have hst := st_c (b := x8) (m := ma) (by rw [hi1_142]; exact Or.inr (hkm.1 _)) hma (by assumption) (by assumption)
                refine lv_iconst (v := 1) hC.x hC.b dX10_looks_156 (by decide) ?_
                refine lv_iadd hC.x hC.b dX10_looks_157 ?_
                refine lv_iconst (v := 2) hC.x hC.b dX10_looks_158 (by decide) ?_
                refine lv_idiv hC.x hC.b dX10_looks_159 (by decide) ?_
                refine bi_lt (tgt := 170) (a := v_92.toInt) (b := ((v_95 + (1 : Int32)) / (2 : Int32)).toInt) hC.x hC.b rfl rfl dX10_looks_160 (by decide) (fun c_98 => ?_) (fun c_98 => ?_)
                · skip
                  refine lv_goto (tgt := 202) hC.x hC.b dX10_looks_170 (by decide) ?_
                  exact L_202 σ τ (by exact hkm) (by exact ls_n hsu6 (by omega) hi1_142 (by rintro ⟨h1, h2⟩; omega)) MRel.rf _ _ _ hR hS (lv_sub hl [0, 1, 2] rfl)
                · skip
                  have hsn := hkm.2.2.2
                  refine lv_aload_n hC.x hC.b dX10_looks_163 rfl (lv_at hl 0 rfl) ?_
                  refine lv_iload_n hC.x hC.b dX10_looks_164 rfl (lv_at hl 1 rfl) ?_
                  refine lv_iload hC.x hC.b dX10_looks_165 (lv_at hl 4 rfl) ?_
                  refine gov (runV (As := [.int pl, .int x8]) (rest := []) hC hK hR hl.1 (c7_X10_steps l hG σ τ pl q (by first | rfl | (rw [show pl.toInt = pl.toInt from rfl]; done) | (rw [show pl.toInt = pl.toInt from rfl]; exact hp_q)) x8 (by first | assumption | omega) (by omega) (by first | assumption | omega)) (call_b hC.ts TC_X10_steps TN_X10 TM_X10_251 hd_X10_steps ⟨Nat.le_of_ble_eq_true rfl, Nat.le_of_ble_eq_true rfl⟩) TI_X10_steps TS_X10_steps (ct_model G _ _) rfl rfl rfl (Nat.le_of_ble_eq_true rfl) dX10_looks_167 ⟨Nat.le_of_ble_eq_true rfl, Nat.le_of_ble_eq_true rfl⟩) hS (fun s_101 t_102 H locs w_100 hR hS => ?_)
                  try dsimp only [po7_X10_steps] at w_100
                  obtain ⟨f_103, f_104, f_105⟩ := w_100
                  refine lv_goto (tgt := 202) hC.x hC.b dX10_looks_170 (by decide) ?_
                  exact L_202 s_101 t_102 (by exact (KM.f37 hkm f_103 (by first | omega | (dsimp only; omega)) (by first | omega | (dsimp only; omega)) (by first | omega | (dsimp only; omega)) f_104)) (by exact ls_y hp_q hin hkm hsu6 (by omega) hi1_142 ⟨by omega, by omega⟩ f_105) (MRel.tr MRel.rf (MRel.mo f_103 (by intro k q; first | omega | (dsimp only at q ⊢; omega) | exact q.elim) (by intro j q; first | omega | (dsimp only at q ⊢; omega) | exact q.elim))) _ _ _ hR hS (lv_sub hl [0, 1, 2] rfl)
            refine lv_iload hC.x hC.b dX10_looks_117 (lv_at hl 0 rfl) ?_
            refine bz_le (tgt := 126) (a := x_89.toInt) (b := 0) hC.x hC.b rfl rfl dX10_looks_119 (by decide) (fun c_106 => ?_) (fun c_106 => ?_)
            · skip
              refine lv_iload hC.x hC.b dX10_looks_126 (lv_at hl 0 rfl) ?_
              refine bz_ge (tgt := 139) (a := x_89.toInt) (b := 0) hC.x hC.b rfl rfl dX10_looks_128 (by decide) (fun c_107 => ?_) (fun c_107 => ?_)
              · skip
                refine lv_iconst (v := 0) hC.x hC.b dX10_looks_139 (by decide) ?_
                refine lv_istore (lv' := [(9, .int (0 : Int32)), (8, .int x_89), (0, .ref (G.2.1 35)), (1, .int pl), (2, .int ma), (6, .long x6)]) hC.x hC.b dX10_looks_140 hl (by decide) rfl (fun ls hl => ?_)
                exact L_142 x_89 (0 : Int32) (by first | exact Or.inl ⟨by decide, by unfold sg6; omega⟩ | exact Or.inr ⟨by decide, by unfold sg6; omega⟩) (by rw [ex_90, show (σ 35 29 - (1 : Int32)).toInt = (σ 35 29).toInt - 1 from subI rfl (show (1 : Int32).toInt = 1 from by decide) (by omega) (by omega)]) _ _ _ hR hS (lv_sub hl [2, 3, 4, 5, 1, 0] rfl)
              · skip
                refine lv_iload_n hC.x hC.b dX10_looks_131 rfl (lv_at hl 3 rfl) ?_
                refine bz_ge (tgt := 139) (a := ma.toInt) (b := 0) hC.x hC.b rfl rfl dX10_looks_132 (by decide) (fun c_108 => ?_) (fun c_108 => ?_)
                · skip
                  refine lv_iconst (v := 0) hC.x hC.b dX10_looks_139 (by decide) ?_
                  refine lv_istore (lv' := [(9, .int (0 : Int32)), (8, .int x_89), (0, .ref (G.2.1 35)), (1, .int pl), (2, .int ma), (6, .long x6)]) hC.x hC.b dX10_looks_140 hl (by decide) rfl (fun ls hl => ?_)
                  exact L_142 x_89 (0 : Int32) (by first | exact Or.inl ⟨by decide, by unfold sg6; omega⟩ | exact Or.inr ⟨by decide, by unfold sg6; omega⟩) (by rw [ex_90, show (σ 35 29 - (1 : Int32)).toInt = (σ 35 29).toInt - 1 from subI rfl (show (1 : Int32).toInt = 1 from by decide) (by omega) (by omega)]) _ _ _ hR hS (lv_sub hl [2, 3, 4, 5, 1, 0] rfl)
                · skip
                  refine lv_iconst (v := 1) hC.x hC.b dX10_looks_135 (by decide) ?_
                  refine lv_goto (tgt := 140) hC.x hC.b dX10_looks_136 (by decide) ?_
                  refine lv_istore (lv' := [(9, .int (1 : Int32)), (8, .int x_89), (0, .ref (G.2.1 35)), (1, .int pl), (2, .int ma), (6, .long x6)]) hC.x hC.b dX10_looks_140 hl (by decide) rfl (fun ls hl => ?_)
                  exact L_142 x_89 (1 : Int32) (by first | exact Or.inl ⟨by decide, by unfold sg6; omega⟩ | exact Or.inr ⟨by decide, by unfold sg6; omega⟩) (by rw [ex_90, show (σ 35 29 - (1 : Int32)).toInt = (σ 35 29).toInt - 1 from subI rfl (show (1 : Int32).toInt = 1 from by decide) (by omega) (by omega)]) _ _ _ hR hS (lv_sub hl [2, 3, 4, 5, 1, 0] rfl)
            · skip
              refine lv_iload_n hC.x hC.b dX10_looks_122 rfl (lv_at hl 3 rfl) ?_
              refine bz_gt (tgt := 135) (a := ma.toInt) (b := 0) hC.x hC.b rfl rfl dX10_looks_123 (by decide) (fun c_109 => ?_) (fun c_109 => ?_)
              · skip
                refine lv_iconst (v := 1) hC.x hC.b dX10_looks_135 (by decide) ?_
                refine lv_goto (tgt := 140) hC.x hC.b dX10_looks_136 (by decide) ?_
                refine lv_istore (lv' := [(9, .int (1 : Int32)), (8, .int x_89), (0, .ref (G.2.1 35)), (1, .int pl), (2, .int ma), (6, .long x6)]) hC.x hC.b dX10_looks_140 hl (by decide) rfl (fun ls hl => ?_)
                exact L_142 x_89 (1 : Int32) (by first | exact Or.inl ⟨by decide, by unfold sg6; omega⟩ | exact Or.inr ⟨by decide, by unfold sg6; omega⟩) (by rw [ex_90, show (σ 35 29 - (1 : Int32)).toInt = (σ 35 29).toInt - 1 from subI rfl (show (1 : Int32).toInt = 1 from by decide) (by omega) (by omega)]) _ _ _ hR hS (lv_sub hl [2, 3, 4, 5, 1, 0] rfl)
              · skip
                refine lv_iload hC.x hC.b dX10_looks_126 (lv_at hl 0 rfl) ?_
                refine bz_ge (tgt := 139) (a := x_89.toInt) (b := 0) hC.x hC.b rfl rfl dX10_looks_128 (by decide) (fun c_110 => ?_) (fun c_110 => ?_)
                · skip
                  refine lv_iconst (v := 0) hC.x hC.b dX10_looks_139 (by decide) ?_
                  refine lv_istore (lv' := [(9, .int (0 : Int32)), (8, .int x_89), (0, .ref (G.2.1 35)), (1, .int pl), (2, .int ma), (6, .long x6)]) hC.x hC.b dX10_looks_140 hl (by decide) rfl (fun ls hl => ?_)
                  exact L_142 x_89 (0 : Int32) (by first | exact Or.inl ⟨by decide, by unfold sg6; omega⟩ | exact Or.inr ⟨by decide, by unfold sg6; omega⟩) (by rw [ex_90, show (σ 35 29 - (1 : Int32)).toInt = (σ 35 29).toInt - 1 from subI rfl (show (1 : Int32).toInt = 1 from by decide) (by omega) (by omega)]) _ _ _ hR hS (lv_sub hl [2, 3, 4, 5, 1, 0] rfl)
                · skip
                  refine lv_iload_n hC.x hC.b dX10_looks_131 rfl (lv_at hl 3 rfl) ?_
                  refine bz_ge (tgt := 139) (a := ma.toInt) (b := 0) hC.x hC.b rfl rfl dX10_looks_132 (by decide) (fun c_111 => ?_) (fun c_111 => ?_)
                  · skip
                    refine lv_iconst (v := 0) hC.x hC.b dX10_looks_139 (by decide) ?_
                    refine lv_istore (lv' := [(9, .int (0 : Int32)), (8, .int x_89), (0, .ref (G.2.1 35)), (1, .int pl), (2, .int ma), (6, .long x6)]) hC.x hC.b dX10_looks_140 hl (by decide) rfl (fun ls hl => ?_)
                    exact L_142 x_89 (0 : Int32) (by first | exact Or.inl ⟨by decide, by unfold sg6; omega⟩ | exact Or.inr ⟨by decide, by unfold sg6; omega⟩) (by rw [ex_90, show (σ 35 29 - (1 : Int32)).toInt = (σ 35 29).toInt - 1 from subI rfl (show (1 : Int32).toInt = 1 from by decide) (by omega) (by omega)]) _ _ _ hR hS (lv_sub hl [2, 3, 4, 5, 1, 0] rfl)
                  · skip
                    refine lv_iconst (v := 1) hC.x hC.b dX10_looks_135 (by decide) ?_
                    refine lv_goto (tgt := 140) hC.x hC.b dX10_looks_136 (by decide) ?_
                    refine lv_istore (lv' := [(9, .int (1 : Int32)), (8, .int x_89), (0, .ref (G.2.1 35)), (1, .int pl), (2, .int ma), (6, .long x6)]) hC.x hC.b dX10_looks_140 hl (by decide) rfl (fun ls hl => ?_)
                    exact L_142 x_89 (1 : Int32) (by first | exact Or.inl ⟨by decide, by unfold sg6; omega⟩ | exact Or.inr ⟨by decide, by unfold sg6; omega⟩) (by rw [ex_90, show (σ 35 29 - (1 : Int32)).toInt = (σ 35 29).toInt - 1 from subI rfl (show (1 : Int32).toInt = 1 from by decide) (by omega) (by omega)]) _ _ _ hR hS (lv_sub hl [2, 3, 4, 5, 1, 0] rfl)
        refine lv_iload hC.x hC.b dX10_looks_68 (lv_at hl 4 rfl) ?_
        refine bz_ne (tgt := 77) (a := x5.toInt) (b := 0) hC.x hC.b rfl rfl dX10_looks_70 (by decide) (fun c_112 => ?_) (fun c_112 => ?_)
        · skip
          refine lv_lload_n hC.x hC.b dX10_looks_77 rfl (lv_at hl 3 rfl) ?_
          refine lv_iload hC.x hC.b dX10_looks_78 (lv_at hl 4 rfl) ?_
          refine lv_i2l hC.x hC.b dX10_looks_80 rfl ?_
          refine lv_ldiv hC.x hC.b dX10_looks_81 (ne0L (i2lI rfl) (by omega)) ?_
          refine lv_lstore (lv' := [(6, .long (x3 / x5.toInt64)), (0, .ref (G.2.1 35)), (1, .int pl), (2, .int ma), (3, .long x3), (5, .int x5)]) hC.x hC.b dX10_looks_82 hl (by decide) rfl (fun ls hl => ?_)
          exact L_84 (x3 / x5.toInt64) (by (have e9 : n = (σ 38 q).toInt.toNat := by omega); subst e9; first | exact um_m0 hi1_18.1 (by omega) | exact um_m1 hi1_18.1 hi1_18.2 (by omega)) _ _ _ hR hS (lv_sub hl [1, 2, 3, 0] rfl)
        · skip
          refine lv_lconst (v := 0) hC.x hC.b dX10_looks_73 (by decide) ?_
          refine lv_goto (tgt := 82) hC.x hC.b dX10_looks_74 (by decide) ?_
          refine lv_lstore (lv' := [(6, .long (0 : Int64)), (0, .ref (G.2.1 35)), (1, .int pl), (2, .int ma), (3, .long x3), (5, .int x5)]) hC.x hC.b dX10_looks_82 hl (by decide) rfl (fun ls hl => ?_)
          exact L_84 (0 : Int64) (by (have e9 : n = (σ 38 q).toInt.toNat := by omega); subst e9; first | exact um_m0 hi1_18.1 (by omega) | exact um_m1 hi1_18.1 hi1_18.2 (by omega)) _ _ _ hR hS (lv_sub hl [1, 2, 3, 0] rfl)
      · skip
        refine lv_aload_n hC.x hC.b dX10_looks_27 rfl (lv_at hl 0 rfl) ?_
        refine lv_iload hC.x hC.b dX10_looks_28 (lv_at hl 5 rfl) ?_
        refine lv_iload_n hC.x hC.b dX10_looks_30 rfl (lv_at hl 1 rfl) ?_
        refine goip (runV (As := [.int t, .int pl]) (rest := []) hC hK hR hl.1 (c5_X10_isMissed l hG σ τ t t.toInt.toNat rfl pl q (by first | rfl | (rw [show pl.toInt = pl.toInt from rfl]; done) | (rw [show pl.toInt = pl.toInt from rfl]; exact hp_q)) (by first | assumption | omega) (by omega)) (call_b hC.ts TC_X10_isMissed TN_X10 TM_X10_214 hd_X10_isMissed ⟨Nat.le_of_ble_eq_true rfl, Nat.le_of_ble_eq_true rfl⟩) TI_X10_isMissed TS_X10_isMissed (ct_model G _ _) rfl rfl rfl (Nat.le_of_ble_eq_true rfl) dX10_looks_31 ⟨Nat.le_of_ble_eq_true rfl, Nat.le_of_ble_eq_true rfl⟩) hS (fun v_113 H locs w_114 hR hS => ?_)
        rcases w_114 with ⟨rfl, f_115, f_116, f_117⟩ | ⟨rfl, f_118⟩
        · skip
          refine bz_ne (tgt := 40) (a := 1) (b := 0) hC.x hC.b rfl rfl dX10_looks_34 (by decide) (fun _ => ?_) (fun c_119 => absurd c_119 (by decide))
          refine lv_lload_n hC.x hC.b dX10_looks_40 rfl (lv_at hl 3 rfl) ?_
          refine lv_aload_n hC.x hC.b dX10_looks_41 rfl (lv_at hl 0 rfl) ?_
          refine rget hC hK hR (ct_model G _ _) rfl uin_X10 20 (by decide) TF_X10_71 rfl dX10_looks_42 ?_
          refine lv_aload_n hC.x hC.b dX10_looks_45 rfl (lv_at hl 0 rfl) ?_
          refine lv_iload hC.x hC.b dX10_looks_46 (lv_at hl 5 rfl) ?_
          refine lv_iload_n hC.x hC.b dX10_looks_48 rfl (lv_at hl 1 rfl) ?_
          refine goip (runV (As := [.int t, .int pl]) (rest := [.ref (G.2.1 56), .long x3]) hC hK hR hl.1 (c_X10_at l hG σ τ t t.toInt.toNat rfl pl q (by first | rfl | (rw [show pl.toInt = pl.toInt from rfl]; done) | (rw [show pl.toInt = pl.toInt from rfl]; exact hp_q)) (by omega) (by omega)) (call_b hC.ts TC_X10_at TN_X10 TM_X10_140 hd_X10_at ⟨Nat.le_of_ble_eq_true rfl, Nat.le_of_ble_eq_true rfl⟩) TI_X10_at TS_X10_at (ct_model G _ _) rfl rfl rfl (Nat.le_of_ble_eq_true rfl) dX10_looks_49 ⟨Nat.le_of_ble_eq_true rfl, Nat.le_of_ble_eq_true rfl⟩) hS (fun v_120 H locs w_121 hR hS => ?_)
          subst w_121
          refine ald hC hK hR (ct_m_ms G _ _) (nI_T _ (by omega)) (by omega) (by omega) (Int.toNat_natCast _) dX10_looks_52 ?_
          refine goip (runS (As := [.int (σ 56 (24 * t.toInt.toNat + q))]) (rest := [.long x3]) hC hK hR hl.1 (c5_X10_amount l hG σ τ (σ 56 (24 * t.toInt.toNat + q)) ) (call_b hC.ts TC_X10_amount TN_X10 TM_X10_248 hd_X10_amount ⟨Nat.le_of_ble_eq_true rfl, Nat.le_of_ble_eq_true rfl⟩) TT_X10_amount rfl rfl (Nat.le_of_ble_eq_true rfl) dX10_looks_53 ⟨Nat.le_of_ble_eq_true rfl, Nat.le_of_ble_eq_true rfl⟩) hS (fun v_122 H locs w_123 hR hS => ?_)
          have f_124 := w_123
          refine lv_i2l hC.x hC.b dX10_looks_56 rfl ?_
          refine lv_ladd hC.x hC.b dX10_looks_57 ?_
          refine lv_lstore_n (lv' := [(3, .long (x3 + v_122.toInt64)), (0, .ref (G.2.1 35)), (1, .int pl), (2, .int ma), (5, .int x5), (6, .int t)]) hC.x hC.b dX10_looks_58 rfl hl (by decide) rfl (fun ls hl => ?_)
          obtain ⟨x_125, ex_126⟩ : ∃ y : Int32, y = x5 + 1 := ⟨_, rfl⟩
          refine lv_iinc (v := x_125) (lv' := [(5, .int x_125), (3, .long (x3 + v_122.toInt64)), (0, .ref (G.2.1 35)), (1, .int pl), (2, .int ma), (6, .int t)]) hC.x hC.b dX10_looks_59 hl (k := 4) rfl ex_126.symm (by decide) rfl (fun ls hl => ?_)
          obtain ⟨x_127, ex_128⟩ : ∃ y : Int32, y = t + 1 := ⟨_, rfl⟩
          have pr_129 : x_127.toInt = t.toInt + (1) := by rw [ex_128]; exact addI rfl rfl (by omega) (by omega)
          refine lv_iinc (v := x_127) (lv' := [(6, .int x_127), (5, .int x_125), (3, .long (x3 + v_122.toInt64)), (0, .ref (G.2.1 35)), (1, .int pl), (2, .int ma)]) hC.x hC.b dX10_looks_62 hl (k := 5) rfl ex_128.symm (by decide) rfl (fun ls hl => ?_)
          refine lv_goto (tgt := 18) hC.x hC.b dX10_looks_65 (by decide) ?_
          exact ih_18 (n + 1) (x3 + v_122.toInt64) x_125 x_127 (by omega) (by first | omega | assumption) (by exact mga_y (by first | assumption | rfl) hi1_18.1 hi1_18.2 hi0_18.1 (pmv MRel.rf (by assumption)) (pM_y hkm (by assumption)) (by assumption)) _ _ _ hR hS (lv_sub hl [3, 4, 5, 2, 1, 0] rfl)
        · skip
          refine bz_ne (tgt := 40) (a := 0) (b := 0) hC.x hC.b rfl rfl dX10_looks_34 (by decide) (fun c_130 => absurd c_130 (by decide)) (fun _ => ?_)
          refine lv_goto (tgt := 62) hC.x hC.b dX10_looks_37 (by decide) ?_
          obtain ⟨x_131, ex_132⟩ : ∃ y : Int32, y = t + 1 := ⟨_, rfl⟩
          have pr_133 : x_131.toInt = t.toInt + (1) := by rw [ex_132]; exact addI rfl rfl (by omega) (by omega)
          refine lv_iinc (v := x_131) (lv' := [(6, .int x_131), (0, .ref (G.2.1 35)), (1, .int pl), (2, .int ma), (3, .long x3), (5, .int x5)]) hC.x hC.b dX10_looks_62 hl (k := 5) rfl ex_132.symm (by decide) rfl (fun ls hl => ?_)
          refine lv_goto (tgt := 18) hC.x hC.b dX10_looks_65 (by decide) ?_
          exact ih_18 (n + 1) x3 x5 x_131 (by omega) (by first | omega | assumption) (by exact mga_n hi1_18.1 hi1_18.2 hi0_18.1 (pM_n (by assumption))) _ _ _ hR hS (lv_sub hl [1, 2, 3, 4, 5, 0] rfl)
  exact L_18 _ 0 (0 : Int64) (0 : Int32) ((σ 35 29) - (σ 38 q)) (Nat.lt_succ_self _) (by first | omega | assumption) (by exact ⟨rfl, rfl⟩) _ _ _ hR hS (lv_sub hl [3, 4, 5, 2, 1, 0] rfl)
