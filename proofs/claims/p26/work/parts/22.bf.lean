/-! the fewest links: what 24 rounds of shortening give -/
theorem php : ∀ (n : Nat) (g : Nat → Nat), (∀ i, i ≤ n → g i < n) → ∃ i j, i < j ∧ j ≤ n ∧ g i = g j
  | 0, g, h => absurd (h 0 (Nat.le_refl 0)) (Nat.not_lt_zero _)
  | n + 1, g, h => by
    by_cases hx : ∃ i, i ≤ n ∧ g i = g (n + 1)
    · obtain ⟨i, h1, h2⟩ := hx
      exact ⟨i, n + 1, by omega, Nat.le_refl _, h2⟩
    · have hne : ∀ i, i ≤ n → g i ≠ g (n + 1) := fun i hi e => hx ⟨i, hi, e⟩
      have hlast := h (n + 1) (Nat.le_refl _)
      obtain ⟨i, j, h1, h2, h3⟩ := php n (fun i => if g i < g (n + 1) then g i else g i - 1) (fun i hi => by
        have h4 := h i (by omega)
        have h5 := hne i hi
        show (if g i < g (n + 1) then g i else g i - 1) < n
        split <;> omega)
      have h4 := hne i (by omega)
      have h5 := hne j h2
      refine ⟨i, j, h1, by omega, ?_⟩
      have h6 : (if g i < g (n + 1) then g i else g i - 1) = (if g j < g (n + 1) then g j else g j - 1) := h3
      by_cases e1 : g i < g (n + 1) <;> by_cases e2 : g j < g (n + 1)
      · rw [if_pos e1, if_pos e2] at h6; exact h6
      · rw [if_pos e1, if_neg e2] at h6; omega
      · rw [if_neg e1, if_pos e2] at h6; omega
      · rw [if_neg e1, if_neg e2] at h6; omega
def BFI (U : Nat → Prop) (x y : Nat → Nat) (b : Nat) (f : Nat → Int) : Prop :=
  (∀ k, k < 24 → 0 ≤ f k ∧ f k ≤ 99) ∧ f b = 0 ∧ ∀ k, k < 24 → k ≠ b → f k < 99 → ∃ l, l < 24 ∧ U l ∧ ((x l = k ∧ f (y l) + 1 ≤ f k) ∨ (y l = k ∧ f (x l) + 1 ≤ f k))
def BFL (U : Nat → Prop) (x y : Nat → Nat) (r : Int) (j : Nat) (f : Nat → Int) : Prop :=
  (∀ l, l < 24 → U l → (f (y l) ≤ r - 1 → f (x l) ≤ f (y l) + 1) ∧ (f (x l) ≤ r - 1 → f (y l) ≤ f (x l) + 1)) ∧ ∀ l, l < j → U l → (f (y l) ≤ r → f (x l) ≤ f (y l) + 1) ∧ (f (x l) ≤ r → f (y l) ≤ f (x l) + 1)
theorem BFI.sw {U : Nat → Prop} {x y : Nat → Nat} {b : Nat} {f : Nat → Int} (h : BFI U x y b f) : BFI U y x b f := ⟨h.1, h.2.1, fun k h1 h2 h3 => by
  obtain ⟨l, a, c, d⟩ := h.2.2 k h1 h2 h3
  exact ⟨l, a, c, d.symm⟩⟩
theorem BFL.sw {U : Nat → Prop} {x y : Nat → Nat} {r : Int} {j : Nat} {f : Nat → Int} (h : BFL U x y r j f) : BFL U y x r j f := ⟨fun l h1 h2 => (h.1 l h1 h2).symm, fun l h1 h2 => (h.2 l h1 h2).symm⟩
def rlx (f : Nat → Int) (a : Nat) (v : Int) : Nat → Int := fun k => if k = a then v else f k
theorem rlx_s {f : Nat → Int} {a : Nat} {v : Int} : rlx f a v a = v := by simp [rlx]
theorem rlx_n {f : Nat → Int} {a k : Nat} {v : Int} (h : k ≠ a) : rlx f a v k = f k := by simp [rlx, h]
theorem bf_rlx {U : Nat → Prop} {x y : Nat → Nat} {b j : Nat} {r : Int} {f : Nat → Int} (hxy : ∀ l, l < 24 → U l → x l < 24 ∧ y l < 24) (h : BFI U x y b f) (hL : BFL U x y r j f) (hj : j < 24) (hU : U j) (hc : f (y j) + 1 < f (x j)) :
    BFI U x y b (rlx f (x j) (f (y j) + 1)) ∧ BFL U x y r j (rlx f (x j) (f (y j) + 1)) := by
  obtain ⟨hx, hy⟩ := hxy j hj hU
  have hle : ∀ k, rlx f (x j) (f (y j) + 1) k ≤ f k := fun k => by
    by_cases e : k = x j
    · rw [e, rlx_s]; omega
    · rw [rlx_n e]; exact Int.le_refl _
  have hyx : y j ≠ x j := fun e => by rw [e] at hc; omega
  have key : ∀ k t, k < 24 → t ≤ r → rlx f (x j) (f (y j) + 1) k ≤ t → rlx f (x j) (f (y j) + 1) k = f k := fun k t hk ht h1 => by
    by_cases e : k = x j
    · rw [e, rlx_s] at h1
      have h2 := (hL.1 j hj hU).1 (by omega)
      omega
    · exact rlx_n e
  refine ⟨⟨fun k hk => ?_, ?_, fun k hk hb hlt => ?_⟩, fun l hl hu => ⟨fun q => ?_, fun q => ?_⟩, fun l hl hu => ⟨fun q => ?_, fun q => ?_⟩⟩
  · have h1 := h.1 k hk
    have h2 := h.1 (y j) hy
    have h3 := hle k
    by_cases e : k = x j
    · rw [e, rlx_s]; rw [e] at h1; omega
    · rw [rlx_n e]; exact h1
  · by_cases e : b = x j
    · have h1 := h.2.1
      have h2 := h.1 (y j) hy
      rw [e] at h1
      omega
    · rw [rlx_n e]; exact h.2.1
  · by_cases e : k = x j
    · refine ⟨j, hj, hU, Or.inl ⟨e.symm, ?_⟩⟩
      rw [e, rlx_s, rlx_n hyx]
      exact Int.le_refl _
    · rw [rlx_n e] at hlt ⊢
      obtain ⟨l, h1, h2, h3⟩ := h.2.2 k hk hb hlt
      refine ⟨l, h1, h2, ?_⟩
      rcases h3 with ⟨h3, h4⟩ | ⟨h3, h4⟩
      · exact Or.inl ⟨h3, by have := hle (y l); omega⟩
      · exact Or.inr ⟨h3, by have := hle (x l); omega⟩
  · have e9 := key (y l) (r - 1) (hxy l hl hu).2 (by omega) q
    rw [e9] at q ⊢
    have h1 := (hL.1 l hl hu).1 q
    have h2 := hle (x l)
    omega
  · have e9 := key (x l) (r - 1) (hxy l hl hu).1 (by omega) q
    rw [e9] at q ⊢
    have h1 := (hL.1 l hl hu).2 q
    have h2 := hle (y l)
    omega
  · have e9 := key (y l) r (hxy l (by omega) hu).2 (by omega) q
    rw [e9] at q ⊢
    have h1 := (hL.2 l hl hu).1 q
    have h2 := hle (x l)
    omega
  · have e9 := key (x l) r (hxy l (by omega) hu).1 (by omega) q
    rw [e9] at q ⊢
    have h1 := (hL.2 l hl hu).2 q
    have h2 := hle (y l)
    omega
theorem BFL.nx {U : Nat → Prop} {x y : Nat → Nat} {r : Int} {j : Nat} {f : Nat → Int} (h : BFL U x y r j f) (hj : U j → f (x j) ≤ f (y j) + 1 ∧ f (y j) ≤ f (x j) + 1) : BFL U x y r (j + 1) f :=
  ⟨h.1, fun l hl hu => by
    by_cases e : l = j
    · subst e
      exact ⟨fun _ => (hj hu).1, fun _ => (hj hu).2⟩
    · exact h.2 l (by omega) hu⟩
theorem BFL.rd {U : Nat → Prop} {x y : Nat → Nat} {r : Int} {f : Nat → Int} (h : BFL U x y r 24 f) : BFL U x y (r + 1) 0 f :=
  ⟨fun l hl hu => ⟨fun q => (h.2 l hl hu).1 (by omega), fun q => (h.2 l hl hu).2 (by omega)⟩, fun l hl => absurd hl (Nat.not_lt_zero l)⟩
section BFF
variable {U : Nat → Prop} {x y : Nat → Nat} {b : Nat} {f : Nat → Int}
/-- a neighbour that is one nearer -/
theorem bf_nb (hxy : ∀ l, l < 24 → U l → x l < 24 ∧ y l < 24) (h : BFI U x y b f) (hL : BFL U x y 24 0 f) {k : Nat} (hk : k < 24) (hb : k ≠ b) (hlt : f k < 99) (h24 : f k ≤ 24) :
    ∃ l, l < 24 ∧ U l ∧ ((x l = k ∧ f (y l) = f k - 1) ∨ (y l = k ∧ f (x l) = f k - 1)) := by
  obtain ⟨l, h1, h2, h3⟩ := h.2.2 k hk hb hlt
  refine ⟨l, h1, h2, ?_⟩
  rcases h3 with ⟨h3, h4⟩ | ⟨h3, h4⟩
  · have h5 := (hL.1 l h1 h2).1 (by omega)
    rw [h3] at h5
    exact Or.inl ⟨h3, by omega⟩
  · have h5 := (hL.1 l h1 h2).2 (by omega)
    rw [h3] at h5
    exact Or.inr ⟨h3, by omega⟩
theorem bf_24 (hxy : ∀ l, l < 24 → U l → x l < 24 ∧ y l < 24) (h : BFI U x y b f) (hL : BFL U x y 24 0 f) : ∀ (n : Nat) (k : Nat), k < 24 → f k < 99 → 24 ≤ f k → f k ≤ n → ∃ k', k' < 24 ∧ f k' = 24
  | 0, k, hk, hlt, h24, hn => by omega
  | n + 1, k, hk, hlt, h24, hn => by
    have hb : k ≠ b := fun e => by rw [e, h.2.1] at h24; omega
    obtain ⟨l, h1, h2, h3⟩ := h.2.2 k hk hb hlt
    obtain ⟨hx, hy⟩ := hxy l h1 h2
    rcases h3 with ⟨h3, h4⟩ | ⟨h3, h4⟩
    · by_cases q : 24 ≤ f (y l)
      · exact bf_24 hxy h hL n (y l) hy (by omega) q (by omega)
      · have h5 := (hL.1 l h1 h2).1 (by omega)
        rw [h3] at h5
        exact ⟨k, hk, by omega⟩
    · by_cases q : 24 ≤ f (x l)
      · exact bf_24 hxy h hL n (x l) hx (by omega) q (by omega)
      · have h5 := (hL.1 l h1 h2).2 (by omega)
        rw [h3] at h5
        exact ⟨k, hk, by omega⟩
theorem bf_dn (hxy : ∀ l, l < 24 → U l → x l < 24 ∧ y l < 24) (h : BFI U x y b f) (hL : BFL U x y 24 0 f) (h24 : ∃ k', k' < 24 ∧ f k' = 24) : ∀ v : Nat, v ≤ 24 → ∃ k, k < 24 ∧ f k = 24 - (v : Int)
  | 0, _ => by
    obtain ⟨k, h1, h2⟩ := h24
    exact ⟨k, h1, by omega⟩
  | v + 1, hv => by
    obtain ⟨k, h1, h2⟩ := bf_dn hxy h hL h24 v (by omega)
    have hb : k ≠ b := fun e => by rw [e, h.2.1] at h2; omega
    obtain ⟨l, a1, a2, a3⟩ := bf_nb hxy h hL h1 hb (by omega) (by omega)
    obtain ⟨hx, hy⟩ := hxy l a1 a2
    rcases a3 with ⟨a3, a4⟩ | ⟨a3, a4⟩
    · exact ⟨y l, hy, by omega⟩
    · exact ⟨x l, hx, by omega⟩
/-- what is reached at all is reached within 23 -/
theorem bf_23 (hxy : ∀ l, l < 24 → U l → x l < 24 ∧ y l < 24) (h : BFI U x y b f) (hL : BFL U x y 24 0 f) {k : Nat} (hk : k < 24) (hlt : f k < 99) : f k ≤ 23 := by
  by_cases q : f k ≤ 23
  · exact q
  · exfalso
    have h24 := bf_24 hxy h hL 99 k hk hlt (by omega) (by omega)
    have hd := bf_dn hxy h hL h24
    have hch : ∀ v : Nat, ∃ k, v ≤ 24 → k < 24 ∧ f k = 24 - (v : Int) := fun v => by
      by_cases e : v ≤ 24
      · obtain ⟨k, h1⟩ := hd v e
        exact ⟨k, fun _ => h1⟩
      · exact ⟨0, fun e2 => absurd e2 e⟩
    obtain ⟨i, j, h1, h2, h3⟩ := php 24 (fun v => Classical.choose (hch v)) (fun i hi => (Classical.choose_spec (hch i) hi).1)
    have e1 := (Classical.choose_spec (hch i) (by omega)).2
    have e2 := (Classical.choose_spec (hch j) h2).2
    have h3' : Classical.choose (hch i) = Classical.choose (hch j) := h3
    rw [h3'] at e1
    omega
end BFF
/-! the same of the model's state -/
def UM (σ : SI) (hr : Int32) (hq j : Nat) : Prop := 4 ≤ (σ 36 j).toInt ∧ (σ 36 j).toInt ≤ 6 ∧ (toldM σ j hr hq).toInt ≠ 1000000
abbrev xM (σ : SI) (j : Nat) : Nat := (σ 37 j).toInt.toNat
abbrev yM (σ : SI) (j : Nat) : Nat := (σ 38 j).toInt.toNat
abbrev fM (σ : SI) (k : Nat) : Int := (σ 68 k).toInt
abbrev LnM (σ : SI) : Prop := ∀ j, j < 24 → 4 ≤ (σ 36 j).toInt ∧ (σ 36 j).toInt ≤ 6 → (0 ≤ (σ 37 j).toInt ∧ (σ 37 j).toInt < 24) ∧ 0 ≤ (σ 38 j).toInt ∧ (σ 38 j).toInt < 24
theorem LnM.xy {σ : SI} {hr : Int32} {hq : Nat} (h : LnM σ) : ∀ l, l < 24 → UM σ hr hq l → xM σ l < 24 ∧ yM σ l < 24 := fun l hl hu => by
  have h1 := h l hl ⟨hu.1, hu.2.1⟩
  unfold xM yM
  omega
abbrev MGr (σ s1 : SI) : Prop := MRel (fun k => k = 68 ∨ k = 69) (fun j => j = 41 ∨ j = 43) σ s1
theorem toldM_g {σ s1 : SI} {q hq : Nat} {hr : Int32} (h : MGr σ s1) : toldM s1 q hr hq = toldM σ q hr hq := by
  unfold toldM
  rw [h.1 36 (by omega) (by omega), h.1 47 (by omega) (by omega), h.1 48 (by omega) (by omega), h.1 49 (by omega) (by omega), h.1 50 (by omega) (by omega), h.1 51 (by omega) (by omega), h.2 29 (by omega)]
theorem otherM_g {σ s1 : SI} {j : Nat} {pl : Int32} (h : MGr σ s1) : otherM s1 j pl = otherM σ j pl := by
  unfold otherM
  rw [h.1 37 (by omega) (by omega), h.1 38 (by omega) (by omega)]
theorem fM_up {s : SI} {a : Nat} {v : Int32} : fM (up2 s 68 a v) = rlx (fM s) a v.toInt := by
  funext k
  by_cases e : k = a
  · subst e
    show (up2 s 68 k v 68 k).toInt = _
    rw [up2_s, rlx_s]
  · show (up2 s 68 a v 68 k).toInt = _
    rw [up2_n e, rlx_n e]
theorem bf_sk {σ s1 : SI} {hr : Int32} {hq b j : Nat} {r : Int} (hI : BFI (UM σ hr hq) (xM σ) (yM σ) b (fM s1)) (hL : BFL (UM σ hr hq) (xM σ) (yM σ) r j (fM s1)) (hU : ¬ UM σ hr hq j) : BFI (UM σ hr hq) (xM σ) (yM σ) b (fM s1) ∧ BFL (UM σ hr hq) (xM σ) (yM σ) r (j + 1) (fM s1) :=
  ⟨hI, hL.nx (fun h => absurd h hU)⟩
/-- the first half of a link: FIRST is shortened, or was near enough -/
theorem bf_a1 {σ s1 s2 : SI} {hr v : Int32} {hq b j : Nat} {r : Int} (hn : LnM σ) (hj : j < 24) (hU : UM σ hr hq j) (hI : BFI (UM σ hr hq) (xM σ) (yM σ) b (fM s1)) (hL : BFL (UM σ hr hq) (xM σ) (yM σ) r j (fM s1))
    (hc : (s1 68 (yM σ j)).toInt + 1 < (s1 68 (xM σ j)).toInt) (hv : v.toInt = (s1 68 (yM σ j)).toInt + 1) (hs : s2 = up2 s1 68 (xM σ j) v) :
    BFI (UM σ hr hq) (xM σ) (yM σ) b (fM s2) ∧ BFL (UM σ hr hq) (xM σ) (yM σ) r j (fM s2) ∧ (s2 68 (xM σ j)).toInt ≤ (s2 68 (yM σ j)).toInt + 1 := by
  have hne : yM σ j ≠ xM σ j := fun e => by rw [e] at hc; omega
  obtain ⟨h1, h2⟩ := bf_rlx hn.xy hI hL hj hU hc
  subst hs
  rw [fM_up, hv]
  exact ⟨h1, h2, by rw [up2_s, up2_n hne, hv]; omega⟩
theorem bf_a2 {σ s1 s2 : SI} {hr v : Int32} {hq b j : Nat} {r : Int} (hn : LnM σ) (hj : j < 24) (hU : UM σ hr hq j) (h : BFI (UM σ hr hq) (xM σ) (yM σ) b (fM s1) ∧ BFL (UM σ hr hq) (xM σ) (yM σ) r j (fM s1) ∧ (s1 68 (xM σ j)).toInt ≤ (s1 68 (yM σ j)).toInt + 1)
    (hc : (s1 68 (xM σ j)).toInt + 1 < (s1 68 (yM σ j)).toInt) (hv : v.toInt = (s1 68 (xM σ j)).toInt + 1) (hs : s2 = up2 s1 68 (yM σ j) v) :
    BFI (UM σ hr hq) (xM σ) (yM σ) b (fM s2) ∧ BFL (UM σ hr hq) (xM σ) (yM σ) r (j + 1) (fM s2) := by
  have hne : xM σ j ≠ yM σ j := fun e => by rw [e] at hc; omega
  obtain ⟨h1, h2⟩ := bf_rlx (fun l a c => (hn.xy l a c).symm) h.1.sw h.2.1.sw hj hU hc
  subst hs
  rw [fM_up, hv]
  refine ⟨h1.sw, h2.sw.nx (fun _ => ?_)⟩
  rw [rlx_n hne, rlx_s]
  show (s1 68 (xM σ j)).toInt ≤ (s1 68 (xM σ j)).toInt + 1 + 1 ∧ (s1 68 (xM σ j)).toInt + 1 ≤ (s1 68 (xM σ j)).toInt + 1
  omega
theorem bf_a0 {σ s1 : SI} {hr : Int32} {hq b j : Nat} {r : Int} (h : BFI (UM σ hr hq) (xM σ) (yM σ) b (fM s1) ∧ BFL (UM σ hr hq) (xM σ) (yM σ) r j (fM s1) ∧ (s1 68 (xM σ j)).toInt ≤ (s1 68 (yM σ j)).toInt + 1)
    (hc : (s1 68 (yM σ j)).toInt ≤ (s1 68 (xM σ j)).toInt + 1) : BFI (UM σ hr hq) (xM σ) (yM σ) b (fM s1) ∧ BFL (UM σ hr hq) (xM σ) (yM σ) r (j + 1) (fM s1) := ⟨h.1, h.2.1.nx (fun _ => ⟨h.2.2, hc⟩)⟩
/-- at the start: 99 everywhere but at b -/
theorem bf_st {σ s1 s2 : SI} {hr : Int32} {hq b : Nat} (hb : b < 24) (h : ∀ k, k < 24 → (s1 68 k).toInt = 99) (hs : s2 = up2 s1 68 b 0) (hn : LnM σ) : BFI (UM σ hr hq) (xM σ) (yM σ) b (fM s2) ∧ BFL (UM σ hr hq) (xM σ) (yM σ) 0 0 (fM s2) := by
  subst hs
  have h0 : (0 : Int32).toInt = 0 := by decide
  rw [fM_up, h0]
  have hv : ∀ k, k < 24 → rlx (fM s1) b 0 k = if k = b then 0 else 99 := fun k hk => by
    by_cases e : k = b
    · rw [if_pos e, e, rlx_s]
    · rw [if_neg e, rlx_n e]; exact h k hk
  have hnn : ∀ k, k < 24 → 0 ≤ rlx (fM s1) b 0 k := fun k hk => by rw [hv k hk]; split <;> omega
  refine ⟨⟨fun k hk => by rw [hv k hk]; split <;> omega, rlx_s, fun k hk hne hlt => ?_⟩, fun l hl hu => ⟨fun q => ?_, fun q => ?_⟩, fun l hl => absurd hl (Nat.not_lt_zero l)⟩
  · rw [hv k hk, if_neg hne] at hlt; omega
  · have := hnn _ (hn.xy l hl hu).2; omega
  · have := hnn _ (hn.xy l hl hu).1; omega
/-- a link that leads one nearer -/
def GdM (σ : SI) (hr : Int32) (hq : Nat) (h6 : Int32) (j : Nat) : Prop := 4 ≤ (σ 36 j).toInt ∧ (σ 36 j).toInt ≤ 6 ∧ (toldM σ j hr hq).toInt ≠ 1000000 ∧ (otherM σ j h6).toInt ≠ -1 ∧ (σ 68 (otherM σ j h6).toInt.toNat).toInt = (σ 68 h6.toInt.toNat).toInt - 1
theorem otherM_in {σ : SI} {j : Nat} {h6 : Int32} (hn : (0 ≤ (σ 37 j).toInt ∧ (σ 37 j).toInt < 24) ∧ 0 ≤ (σ 38 j).toInt ∧ (σ 38 j).toInt < 24) (h : (otherM σ j h6).toInt ≠ -1) : 0 ≤ (otherM σ j h6).toInt ∧ (otherM σ j h6).toInt < 24 := by
  unfold otherM at h ⊢
  by_cases e1 : (σ 37 j).toInt = h6.toInt
  · rw [if_pos e1]; exact hn.2
  · rw [if_neg e1] at h ⊢
    by_cases e2 : (σ 38 j).toInt = h6.toInt
    · rw [if_pos e2]; exact hn.1
    · rw [if_neg e2] at h
      exact absurd (by decide) h
theorem gd_ex {σ s1 : SI} {hr h6 : Int32} {hq b : Nat} (hn : LnM σ) (hM : MGr σ s1) (hI : BFI (UM σ hr hq) (xM σ) (yM σ) b (fM s1)) (hL : BFL (UM σ hr hq) (xM σ) (yM σ) 24 0 (fM s1)) (h1 : 0 ≤ h6.toInt ∧ h6.toInt < 24) (hb : h6.toInt.toNat ≠ b) (hf : (s1 68 h6.toInt.toNat).toInt ≤ 23) :
    ∃ j, 0 ≤ j ∧ j < 24 ∧ GdM s1 hr hq h6 j := by
  obtain ⟨j, a1, a2, a3⟩ := bf_nb hn.xy hI hL (k := h6.toInt.toNat) (by omega) hb (by show (s1 68 h6.toInt.toNat).toInt < 99; omega) (by show (s1 68 h6.toInt.toNat).toInt ≤ 24; omega)
  have hnj := hn j a1 ⟨a2.1, a2.2.1⟩
  refine ⟨j, Nat.zero_le _, a1, ?_⟩
  unfold GdM
  rw [toldM_g hM, otherM_g hM, hM.1 36 (by omega) (by omega)]
  refine ⟨a2.1, a2.2.1, a2.2.2, ?_⟩
  unfold otherM
  rcases a3 with ⟨a3, a4⟩ | ⟨a3, a4⟩
  · have e1 : (σ 37 j).toInt = h6.toInt := by unfold xM at a3; omega
    rw [if_pos e1]
    exact ⟨by omega, a4⟩
  · have e2 : (σ 38 j).toInt = h6.toInt := by unfold yM at a3; omega
    by_cases e1 : (σ 37 j).toInt = h6.toInt
    · rw [if_pos e1]
      refine ⟨by omega, ?_⟩
      have e3 : (σ 38 j).toInt.toNat = (σ 37 j).toInt.toNat := by rw [e1, e2]
      rw [e3]
      exact a4
    · rw [if_neg e1, if_pos e2]
      exact ⟨by omega, a4⟩
