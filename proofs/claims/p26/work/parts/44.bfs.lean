/-! ===== the way that comes first to a place is the one of the least links ===== -/
/-- link l leads from u to w -/
def Ld (U : Nat → Prop) (x y : Nat → Nat) (l u w : Nat) : Prop := U l ∧ ((x l = u ∧ y l = w) ∨ (y l = u ∧ x l = w))
/-- the queue: its places in their order, and when each came: 24 times whom it came from, and the link -/
def QI (U : Nat → Prop) (x y : Nat → Nat) (a n : Nat) (v e : Nat → Nat) (T : Nat) : Prop :=
  1 ≤ n ∧ v 0 = a ∧ (∀ i, i < n → v i < 24) ∧ (∀ i j, i < n → j < n → v i = v j → i = j) ∧ (∀ i, 1 ≤ i → i < n → e i < T ∧ e i / 24 < i ∧ Ld U x y (e i % 24) (v (e i / 24)) (v i)) ∧ (∀ i j, 1 ≤ i → i < j → j < n → e i < e j) ∧
  (∀ p l w, p < n → l < 24 → 24 * p + l < T → Ld U x y l (v p) w → ∃ i, i < n ∧ v i = w ∧ (i = 0 ∨ e i ≤ 24 * p + l))
section BFSQ
variable {U : Nat → Prop} {x y : Nat → Nat} {a n : Nat} {v e : Nat → Nat} {T : Nat}
theorem QI.st (ha : a < 24) : QI U x y a 1 (fun _ => a) e 0 :=
  ⟨Nat.le_refl 1, rfl, fun _ _ => ha, fun i j hi hj _ => by omega, fun i h1 h2 => by omega, fun i j h1 h2 h3 => by omega, fun p l w _ _ h => absurd h (Nat.not_lt_zero _)⟩
theorem QI.ex {v' e' : Nat → Nat} (h : QI U x y a n v e T) (hv : ∀ i, i < n → v' i = v i) (he : ∀ i, i < n → e' i = e i) : QI U x y a n v' e' T := by
  obtain ⟨h1, h2, h3, h4, h5, h6, h7⟩ := h
  refine ⟨h1, (hv 0 (by omega)).trans h2, fun i hi => by rw [hv i hi]; exact h3 i hi, fun i j hi hj g => h4 i j hi hj (by rw [← hv i hi, ← hv j hj]; exact g), fun i g1 g2 => ?_, fun i j g1 g2 g3 => by rw [he i (by omega), he j g3]; exact h6 i j g1 g2 g3, fun p l w hp hl hT hd => ?_⟩
  · have g := h5 i g1 g2
    rw [he i g2, hv i g2, hv (e i / 24) (by omega)]
    exact g
  · rw [hv p hp] at hd
    obtain ⟨i, g1, g2, g3⟩ := h7 p l w hp hl hT hd
    exact ⟨i, g1, by rw [hv i g1]; exact g2, by rw [he i g1]; exact g3⟩
/-- an event that brings no new place -/
theorem QI.sk {p l : Nat} (h : QI U x y a n v e (24 * p + l)) (hp : p < n) (hl : l < 24) (hr : ∀ w, Ld U x y l (v p) w → ∃ i, i < n ∧ v i = w) : QI U x y a n v e (24 * p + l + 1) := by
  obtain ⟨h1, h2, h3, h4, h5, h6, h7⟩ := h
  refine ⟨h1, h2, h3, h4, fun i g1 g2 => ?_, h6, fun p' l' w hp' hl' hT hd => ?_⟩
  · have g := h5 i g1 g2
    exact ⟨by omega, g.2⟩
  · by_cases g : 24 * p' + l' < 24 * p + l
    · exact h7 p' l' w hp' hl' g hd
    · have e1 : p' = p := by omega
      have e2 : l' = l := by omega
      subst e1
      subst e2
      obtain ⟨i, g1, g2⟩ := hr w hd
      refine ⟨i, g1, g2, ?_⟩
      by_cases g0 : i = 0
      · exact Or.inl g0
      · exact Or.inr (by have := (h5 i (by omega) g1).1; omega)
/-- an event that brings place w -/
theorem QI.ad {p l w : Nat} (h : QI U x y a n v e (24 * p + l)) (hp : p < n) (hl : l < 24) (hne : ∀ l, l < 24 → U l → x l ≠ y l) (hd : Ld U x y l (v p) w) (hw : w < 24) (hn : ∀ i, i < n → v i ≠ w) :
    QI U x y a (n + 1) (fun i => if i = n then w else v i) (fun i => if i = n then 24 * p + l else e i) (24 * p + l + 1) := by
  obtain ⟨h1, h2, h3, h4, h5, h6, h7⟩ := h
  have hu : ∀ w2, Ld U x y l (v p) w2 → w2 = w := fun w2 hd2 => by
    have hx := hne l hl hd.1
    rcases hd.2 with ⟨a1, a2⟩ | ⟨a1, a2⟩ <;> rcases hd2.2 with ⟨b1, b2⟩ | ⟨b1, b2⟩
    · rw [← a2, ← b2]
    · exact absurd (a1.trans b1.symm) hx
    · exact absurd (b1.trans a1.symm) hx
    · rw [← a2, ← b2]
  have hv : ∀ i, i < n → (if i = n then w else v i) = v i := fun i hi => if_neg (by omega)
  have he : ∀ i, i < n → (if i = n then 24 * p + l else e i) = e i := fun i hi => if_neg (by omega)
  refine ⟨by omega, (hv 0 (by omega)).trans h2, fun i hi => ?_, fun i j hi hj g => ?_, fun i g1 g2 => ?_, fun i j g1 g2 g3 => ?_, fun p' l' w' hp' hl' hT hd' => ?_⟩
  · by_cases g : i = n
    · show (if i = n then w else v i) < 24
      rw [if_pos g]; exact hw
    · show (if i = n then w else v i) < 24
      rw [if_neg g]; exact h3 i (by omega)
  · have g : (if i = n then w else v i) = (if j = n then w else v j) := g
    by_cases gi : i = n
    · by_cases gj : j = n
      · omega
      · rw [if_pos gi, if_neg gj] at g
        exact absurd g.symm (hn j (by omega))
    · by_cases gj : j = n
      · rw [if_neg gi, if_pos gj] at g
        exact absurd g (hn i (by omega))
      · rw [if_neg gi, if_neg gj] at g
        exact h4 i j (by omega) (by omega) g
  · show (if i = n then 24 * p + l else e i) < _ ∧ (if i = n then 24 * p + l else e i) / 24 < i ∧ Ld U x y ((if i = n then 24 * p + l else e i) % 24) (if (if i = n then 24 * p + l else e i) / 24 = n then w else v ((if i = n then 24 * p + l else e i) / 24)) (if i = n then w else v i)
    by_cases gi : i = n
    · rw [if_pos gi, if_pos gi]
      have e1 : (24 * p + l) / 24 = p := by omega
      have e2 : (24 * p + l) % 24 = l := by omega
      rw [e1, e2, if_neg (by omega)]
      exact ⟨by omega, by omega, hd⟩
    · rw [if_neg gi, if_neg gi]
      have g := h5 i g1 (by omega)
      rw [if_neg (by omega)]
      exact ⟨by omega, g.2⟩
  · show (if i = n then 24 * p + l else e i) < (if j = n then 24 * p + l else e j)
    rw [if_neg (by omega)]
    by_cases gj : j = n
    · rw [if_pos gj]
      exact (h5 i g1 (by omega)).1
    · rw [if_neg gj]
      exact h6 i j g1 g2 (by omega)
  · have hd' : Ld U x y l' (if p' = n then w else v p') w' := hd'
    have hp2 : p' ≠ n := by omega
    rw [if_neg hp2] at hd'
    by_cases g : 24 * p' + l' < 24 * p + l
    · obtain ⟨i, g1, g2, g3⟩ := h7 p' l' w' (by omega) hl' g hd'
      refine ⟨i, by omega, ?_, ?_⟩
      · show (if i = n then w else v i) = w'
        rw [if_neg (by omega)]; exact g2
      · show i = 0 ∨ (if i = n then 24 * p + l else e i) ≤ _
        rw [if_neg (by omega)]; exact g3
    · have e1 : p' = p := by omega
      have e2 : l' = l := by omega
      subst e1
      subst e2
      refine ⟨n, by omega, ?_, Or.inr ?_⟩
      · show (if n = n then w else v n) = w'
        rw [if_pos rfl]; exact (hu w' hd').symm
      · show (if n = n then 24 * p' + l' else e n) ≤ _
        rw [if_pos rfl]; exact Nat.le_refl _
theorem QI.n24 (h : QI U x y a n v e T) : n ≤ 24 := by
  rcases Nat.lt_or_ge 24 n with g | g
  · exfalso
    obtain ⟨i, j, h1, h2, h3⟩ := php 24 v (fun i hi => h.2.2.1 i (by omega))
    have := h.2.2.2.1 i j (by omega) (by omega) h3
    omega
  · exact g
/-- whoever is in the queue has a number below 99 when b has -/
theorem QI.rch {b : Nat} {f : Nat → Int} (h : QI U x y a n v e T) (hI : BFI U x y b f) (hL : BFL U x y 24 0 f) : ∀ (N i : Nat), i ≤ N → i < n → f (v i) + (i : Int) ≤ 23 → f a ≤ 23
  | N, 0, _, hi, hf => by
    rw [h.2.1] at hf
    omega
  | 0, i + 1, hN, _, _ => absurd hN (by omega)
  | N + 1, i + 1, hN, hi, hf => by
    have g := h.2.2.2.2.1 (i + 1) (by omega) hi
    have hl : e (i + 1) % 24 < 24 := Nat.mod_lt _ (by omega)
    have hx : f (v (e (i + 1) / 24)) ≤ f (v (i + 1)) + 1 := by
      rcases g.2.2.2 with ⟨a1, a2⟩ | ⟨a1, a2⟩
      · have h9 := (hL.1 _ hl g.2.2.1).1
        rw [a1, a2] at h9
        exact h9 (by omega)
      · have h9 := (hL.1 _ hl g.2.2.1).2
        rw [a1, a2] at h9
        exact h9 (by omega)
    exact QI.rch h hI hL N (e (i + 1) / 24) (by omega) (by omega) (by omega)
/-- the way of the least links is the way of the queue -/
theorem QI.way {b : Nat} {f : Nat → Int} {g lk : Nat → Nat} (h : QI U x y a n v e (24 * n)) (hI : BFI U x y b f) (hL : BFL U x y 24 0 f) (hf : f a ≤ 23) (g0 : g 0 = a)
    (hg : ∀ k : Nat, (k : Int) < f a → lk k < 24 ∧ Ld U x y (lk k) (g k) (g (k + 1)) ∧ f (g k) = f a - k ∧ f (g (k + 1)) = f a - k - 1 ∧ ∀ l w, l < lk k → Ld U x y l (g k) w → f w ≠ f a - k - 1) :
    ∀ k : Nat, (k : Int) ≤ f a → ∃ c, c < n ∧ v c = g k ∧ (∀ i, i < n → f (v i) ≤ f a - k → c ≤ i) ∧ (∀ j, k = j + 1 → v (e c / 24) = g j ∧ e c % 24 = lk j ∧ e c / 24 < n ∧ 1 ≤ c)
  | 0, _ => ⟨0, by have := h.1; omega, h.2.1.trans g0.symm, fun i _ _ => Nat.zero_le i, fun j hj => by omega⟩
  | k + 1, hk => by
    obtain ⟨c, c1, c2, c3, -⟩ := QI.way h hI hL hf g0 hg k (by omega)
    obtain ⟨q1, q2, q3, q4, q5⟩ := hg k (by omega)
    have low : ∀ j, j < n → f (v j) ≤ f a - ((k : Int) + 1) → 1 ≤ j ∧ 24 * c + lk k ≤ e j := fun j hj hfj => by
      have j1 : 1 ≤ j := by
        rcases Nat.eq_zero_or_pos j with z | z
        · subst z
          rw [h.2.1] at hfj
          omega
        · exact z
      refine ⟨j1, ?_⟩
      have t := h.2.2.2.2.1 j j1 hj
      have hl : e j % 24 < 24 := Nat.mod_lt _ (by omega)
      have hx : f (v (e j / 24)) ≤ f (v j) + 1 := by
        rcases t.2.2.2 with ⟨a1, a2⟩ | ⟨a1, a2⟩
        · have h9 := (hL.1 _ hl t.2.2.1).1
          rw [a1, a2] at h9
          exact h9 (by omega)
        · have h9 := (hL.1 _ hl t.2.2.1).2
          rw [a1, a2] at h9
          exact h9 (by omega)
      have hc := c3 (e j / 24) (by omega) (by omega)
      by_cases hcp : c = e j / 24
      · have hlk : lk k ≤ e j % 24 := by
          rcases Nat.lt_or_ge (e j % 24) (lk k) with z | z
          · exfalso
            have hd := t.2.2
            rw [← hcp, c2] at hd hx
            exact q5 _ _ z hd (by omega)
          · exact z
        omega
      · omega
    obtain ⟨i, i1, i2, i3⟩ := h.2.2.2.2.2.2 c (lk k) (g (k + 1)) c1 q1 (by omega) (by rw [c2]; exact q2)
    have hi := low i i1 (by rw [i2]; omega)
    have hei : e i = 24 * c + lk k := by omega
    have d1 : e i / 24 = c := by omega
    have d2 : e i % 24 = lk k := by omega
    refine ⟨i, i1, i2, fun j hj hfj => ?_, fun j hj => ?_⟩
    · have hj2 := low j hj (by omega)
      rcases Nat.lt_or_ge j i with z | z
      · have := h.2.2.2.2.2.1 j i hj2.1 z i1
        omega
      · exact z
    · have ej : j = k := by omega
      subst ej
      rw [d1, d2]
      exact ⟨c2, rfl, c1, hi.1⟩
end BFSQ
/-! the same of the class's state: 12 6 how many, 13 the queue, 14 the lengths, 15 the sums -/
def sgn (x : Nat → Nat) (tl : Nat → Int32) (l u : Nat) : Int32 := if x l = u then tl l else -tl l
def BQ (U : Nat → Prop) (x y : Nat → Nat) (tl : Nat → Int32) (a T : Nat) (σ : SI) : Prop :=
  ∃ (n : Nat) (v e : Nat → Nat), QI U x y a n v e T ∧ (σ 12 6).toInt = (n : Int) ∧ (∀ i, i < n → (σ 13 i).toInt = (v i : Int)) ∧ (∀ w, w < 24 → ((σ 14 w).toInt ≠ -1 ↔ ∃ i, i < n ∧ v i = w)) ∧ (σ 14 a).toInt = 0 ∧ σ 15 a = 0 ∧
    (∀ i, 1 ≤ i → i < n → (σ 14 (v i)).toInt = (σ 14 (v (e i / 24))).toInt + 1 ∧ σ 15 (v i) = σ 15 (v (e i / 24)) + sgn x tl (e i % 24) (v (e i / 24))) ∧ (∀ i, i < n → 0 ≤ (σ 14 (v i)).toInt ∧ (σ 14 (v i)).toInt ≤ (i : Int))
def LV (σ : SI) (hr : Int32) (U : Nat → Prop) (x y : Nat → Nat) (tl : Nat → Int32) : Prop :=
  ∀ l, l < 24 → (U l ↔ 4 ≤ (σ 2 l).toInt ∧ (σ 2 l).toInt ≤ 6 ∧ (toldC σ l hr).toInt ≠ 1000000) ∧ (4 ≤ (σ 2 l).toInt ∧ (σ 2 l).toInt ≤ 6 → (σ (104 + l) 1).toInt = (x l : Int) ∧ (σ (104 + l) 2).toInt = (y l : Int) ∧ x l < 24 ∧ y l < 24 ∧ x l ≠ y l ∧ tl l = toldC σ l hr)
section BQS
variable {U : Nat → Prop} {x y : Nat → Nat} {tl : Nat → Int32} {a i l w : Nat} {s s' σ : SI} {fr hr : Int32}
theorem LV.wy (h : LV σ hr U x y tl) (r : Fr (fun k => 12 ≤ k ∧ k ≤ 17) σ s) : LV s hr U x y tl := fun l hl => by
  have g := h l hl
  have e : toldC s l hr = toldC σ l hr := by
    unfold toldC
    rw [r (128 + l) (by omega), r (152 + l) (by omega), r (104 + l) (by omega)]
  rw [r 2 (by omega), r (104 + l) (by omega), e]
  exact g
theorem LV.ne (h : LV σ hr U x y tl) : ∀ l, l < 24 → U l → x l < 24 ∧ y l < 24 ∧ x l ≠ y l := fun l hl hu => by
  have g := (h l hl).1.mp hu
  have g2 := (h l hl).2 ⟨g.1, g.2.1⟩
  exact ⟨g2.2.2.1, g2.2.2.2.1, g2.2.2.2.2.1⟩
theorem BQ.fx (h : BQ U x y tl a (24 * i + l) s) (hi : (i : Int) < (s 12 6).toInt) (hq : (s 13 i).toInt = fr.toInt) : 0 ≤ fr.toInt ∧ fr.toInt < 24 ∧ 0 ≤ (s 14 fr.toInt.toNat).toInt ∧ (s 14 fr.toInt.toNat).toInt < 24 := by
  obtain ⟨n, v, e, h1, h2, h3, h4, h5, h6, h7, h8⟩ := h
  have hin : i < n := by omega
  have e1 := h3 i hin
  have e2 := h1.2.2.1 i hin
  have e3 : fr.toInt.toNat = v i := by omega
  have e4 := h8 i hin
  have e5 := h1.n24
  rw [e3]
  omega
theorem oth_w (g1 : (s (104 + l) 1).toInt = (x l : Int)) (g2 : (s (104 + l) 2).toInt = (y l : Int)) (hne : x l ≠ y l) (hd : ((x l : Int) = fr.toInt ∧ y l = w) ∨ ((y l : Int) = fr.toInt ∧ x l = w)) : (otherC s l fr).toInt = (w : Int) := by
  unfold otherC
  rcases hd with ⟨a1, a2⟩ | ⟨a1, a2⟩
  · rw [if_pos (by omega), g2, a2]
  · rw [if_neg (by omega), if_pos (by omega), g1, a2]
theorem oth_ex (g1 : (s (104 + l) 1).toInt = (x l : Int)) (g2 : (s (104 + l) 2).toInt = (y l : Int)) (ho : (otherC s l fr).toInt ≠ -1) : ∃ w : Nat, (otherC s l fr).toInt = (w : Int) ∧ (((x l : Int) = fr.toInt ∧ y l = w) ∨ ((y l : Int) = fr.toInt ∧ x l = w)) := by
  unfold otherC at ho ⊢
  by_cases c1 : fr.toInt = (s (104 + l) 1).toInt
  · rw [if_pos c1]
    exact ⟨y l, g2, Or.inl ⟨by omega, rfl⟩⟩
  · rw [if_neg c1] at ho ⊢
    by_cases c2 : fr.toInt = (s (104 + l) 2).toInt
    · rw [if_pos c2]
      exact ⟨x l, g1, Or.inr ⟨by omega, rfl⟩⟩
    · rw [if_neg c2] at ho
      exact absurd (by decide) ho
theorem bq_sk (h : BQ U x y tl a (24 * i + l) s) (hl : l < 24) (hi : (i : Int) < (s 12 6).toInt) (hq : (s 13 i).toInt = fr.toInt) (hb : U l → x l < 24 ∧ y l < 24) (hr : ∀ w, w < 24 → U l → (((x l : Int) = fr.toInt ∧ y l = w) ∨ ((y l : Int) = fr.toInt ∧ x l = w)) → (s 14 w).toInt ≠ -1) : BQ U x y tl a (24 * i + l + 1) s := by
  obtain ⟨n, v, e, h1, h2, h3, h4, h5, h6, h7, h8⟩ := h
  have hin : i < n := by omega
  have e1 := h3 i hin
  refine ⟨n, v, e, h1.sk hin hl (fun w hd => ?_), h2, h3, h4, h5, h6, h7, h8⟩
  have hb2 := hb hd.1
  have hw : w < 24 := by rcases hd.2 with ⟨a1, a2⟩ | ⟨a1, a2⟩ <;> omega
  exact (h4 w hw).mp (hr w hw hd.1 (by rcases hd.2 with ⟨a1, a2⟩ | ⟨a1, a2⟩; exact Or.inl ⟨by omega, a2⟩; exact Or.inr ⟨by omega, a2⟩))
theorem bq_ad {o na sa la fa : Int32} {oq : Nat} (h : BQ U x y tl a (24 * i + l) s) (hl : l < 24) (hi : (i : Int) < (s 12 6).toInt) (hq : (s 13 i).toInt = fr.toInt) (hv : ∀ l, l < 24 → U l → x l < 24 ∧ y l < 24 ∧ x l ≠ y l) (hU : U l) (ho : o.toInt = (w : Int)) (hw : w < 24) (hd : ((x l : Int) = fr.toInt ∧ y l = w) ∨ ((y l : Int) = fr.toInt ∧ x l = w)) (hn : (s 14 w).toInt = -1)
    (hna : na = s 14 fr.toInt.toNat + 1) (hsa : sa = s 15 fr.toInt.toNat + sgn x tl l fr.toInt.toNat) (hoq : o.toInt.toNat = oq)
    (R : ((0 ≤ o.toInt ∧ o.toInt < 24 ∧ (s 12 6).toInt < 24) ∧ s' = up2 (up2 (up2 (up2 (up2 (up2 s 14 oq na) 15 oq sa) 16 oq la) 17 oq fa) 13 (s 12 6).toInt.toNat o) 12 6 (s 12 6 + 1)) ∨ (¬ (0 ≤ o.toInt ∧ o.toInt < 24 ∧ (s 12 6).toInt < 24) ∧ s' = s)) :
    BQ U x y tl a (24 * i + l + 1) s' ∧ (s' 13 i).toInt = fr.toInt ∧ (i : Int) < (s' 12 6).toInt := by
  have hfr := h.fx hi hq
  obtain ⟨n, v, e, h1, h2, h3, h4, h5, h6, h7, h8⟩ := h
  have hin : i < n := by omega
  have e1 := h3 i hin
  have evi : fr.toInt.toNat = v i := by omega
  have hnr : ∀ j, j < n → v j ≠ w := fun j hj g => absurd hn ((h4 w hw).mpr ⟨j, hj, g⟩)
  have hd2 : Ld U x y l (v i) w := ⟨hU, by rcases hd with ⟨a1, a2⟩ | ⟨a1, a2⟩; exact Or.inl ⟨by omega, a2⟩; exact Or.inr ⟨by omega, a2⟩⟩
  have g := h1.ad hin hl (fun l hl hu => (hv l hl hu).2.2) hd2 hw hnr
  have g24 := g.n24
  have eoq : oq = w := by omega
  subst eoq
  rcases R with ⟨-, R⟩ | ⟨R, -⟩
  · have en : (s 12 6).toInt.toNat = n := by omega
    rw [en] at R
    have nat1 : na.toInt = (s 14 (v i)).toInt + 1 := by
      rw [hna, evi]
      exact addI rfl (by decide) (by rw [evi] at hfr; omega) (by rw [evi] at hfr; omega)
    have x12 : (s' 12 6).toInt = (n : Int) + 1 := by
      rw [R, up2_s]
      exact addI h2 (by decide) (by omega) (by omega)
    have x13 : ∀ j, s' 13 j = if j = n then o else s 13 j := fun j => by
      rw [R, up2_o (by omega)]
      by_cases z : j = n
      · rw [if_pos z, z, up2_s]
      · rw [if_neg z, up2_n z, up2_o (by omega), up2_o (by omega), up2_o (by omega), up2_o (by omega)]
    have x14 : ∀ j, s' 14 j = if j = oq then na else s 14 j := fun j => by
      rw [R, up2_o (by omega), up2_o (by omega), up2_o (by omega), up2_o (by omega), up2_o (by omega)]
      by_cases z : j = oq
      · rw [if_pos z, z, up2_s]
      · rw [if_neg z, up2_n z]
    have x15 : ∀ j, s' 15 j = if j = oq then sa else s 15 j := fun j => by
      rw [R, up2_o (by omega), up2_o (by omega), up2_o (by omega), up2_o (by omega)]
      by_cases z : j = oq
      · rw [if_pos z, z, up2_s]
      · rw [if_neg z, up2_n z, up2_o (by omega)]
    have ha0 : a ≠ oq := fun z => hnr 0 (by omega) (h1.2.1.trans z)
    have d1 : (24 * i + l) / 24 = i := by omega
    have d2 : (24 * i + l) % 24 = l := by omega
    refine ⟨⟨n + 1, _, _, g, by rw [x12]; omega, fun j hj => ?_, fun w2 hw2 => ?_, ?_, ?_, fun j j1 j2 => ?_, fun j hj => ?_⟩, ?_, ?_⟩
    · rw [x13]
      show _ = (((if j = n then oq else v j) : Nat) : Int)
      by_cases z : j = n
      · rw [if_pos z, if_pos z]; exact ho
      · rw [if_neg z, if_neg z]; exact h3 j (by omega)
    · rw [x14]
      by_cases z : w2 = oq
      · rw [if_pos z]
        have z1 : na.toInt ≠ -1 := by rw [nat1]; rw [evi] at hfr; omega
        exact ⟨fun _ => ⟨n, by omega, by show (if n = n then oq else v n) = w2; rw [if_pos rfl]; exact z.symm⟩, fun _ => z1⟩
      · rw [if_neg z]
        constructor
        · intro q
          obtain ⟨j, b1, b2⟩ := (h4 w2 hw2).mp q
          exact ⟨j, by omega, by show (if j = n then oq else v j) = w2; rw [if_neg (by omega)]; exact b2⟩
        · rintro ⟨j, b1, b2⟩
          have b2 : (if j = n then oq else v j) = w2 := b2
          by_cases z2 : j = n
          · rw [if_pos z2] at b2
            exact absurd b2.symm z
          · rw [if_neg z2] at b2
            exact (h4 w2 hw2).mpr ⟨j, by omega, b2⟩
    · rw [x14, if_neg ha0]; exact h5
    · rw [x15, if_neg ha0]; exact h6
    · show (s' 14 (if j = n then oq else v j)).toInt = (s' 14 (if (if j = n then 24 * i + l else e j) / 24 = n then oq else v ((if j = n then 24 * i + l else e j) / 24))).toInt + 1 ∧ s' 15 (if j = n then oq else v j) = s' 15 (if (if j = n then 24 * i + l else e j) / 24 = n then oq else v ((if j = n then 24 * i + l else e j) / 24)) + sgn x tl ((if j = n then 24 * i + l else e j) % 24) (if (if j = n then 24 * i + l else e j) / 24 = n then oq else v ((if j = n then 24 * i + l else e j) / 24))
      by_cases z : j = n
      · rw [if_pos z, if_pos z, d1, d2, if_neg (show ¬ i = n by omega), x14, x14, x15, x15, if_pos rfl, if_neg (hnr i hin), if_pos rfl, if_neg (hnr i hin)]
        exact ⟨nat1, by rw [hsa, evi]⟩
      · have t := h1.2.2.2.2.1 j j1 (by omega)
        rw [if_neg z, if_neg z, if_neg (show ¬ e j / 24 = n by omega), x14, x14, x15, x15, if_neg (hnr j (by omega)), if_neg (hnr _ (by omega)), if_neg (hnr j (by omega)), if_neg (hnr _ (by omega))]
        exact h7 j j1 (by omega)
    · show 0 ≤ (s' 14 (if j = n then oq else v j)).toInt ∧ (s' 14 (if j = n then oq else v j)).toInt ≤ (j : Int)
      have hv14 := h8 i hin
      by_cases z : j = n
      · rw [if_pos z, x14, if_pos rfl, nat1]
        omega
      · rw [if_neg z, x14, if_neg (hnr j (by omega))]
        exact h8 j (by omega)
    · rw [x13, if_neg (by omega)]; exact hq
    · rw [x12]; omega
  · exfalso
    exact R (by omega)
end BQS
