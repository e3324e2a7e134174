/-! ===== the class's spreading, hour by hour of the queue ===== -/
def fl (k : Nat) (σ : SI) (pl : Int32) (q : Nat) : Int := if 0 ≤ pl.toInt ∧ pl.toInt < 24 ∧ (σ k q).toInt ≠ -1 then (if 0 ≤ (σ k q).toInt ∧ (σ k q).toInt ≤ 3 then 0 else -2) else -1
def RX (k : Nat) (σ : SI) (xa : Int32) (xq : Nat) (ya : Int32) (yq : Nat) (z : Int) : Prop := (fl k σ xa xq ≠ 0 ∧ z = fl k σ xa xq) ∨ (fl k σ xa xq = 0 ∧ fl k σ ya yq ≠ 0 ∧ z = fl k σ ya yq)
def RCH (s s' : SI) (o na sa la fa : Int32) : Prop :=
  ((0 ≤ o.toInt ∧ o.toInt < 24 ∧ (s 12 6).toInt < 24) ∧ s' = up2 (up2 (up2 (up2 (up2 (up2 s 14 o.toInt.toNat na) 15 o.toInt.toNat sa) 16 o.toInt.toNat la) 17 o.toInt.toNat fa) 13 (s 12 6).toInt.toNat o) 12 6 (s 12 6 + 1)) ∨ (¬ (0 ≤ o.toInt ∧ o.toInt < 24 ∧ (s 12 6).toInt < 24) ∧ s' = s)
def SPI (σ s : SI) (fr hr : Int32) (n : Nat) : Prop :=
  ∀ (U : Nat → Prop) (x y : Nat → Nat) (tl : Nat → Int32) (a i : Nat), LV σ hr U x y tl → (i : Int) < (σ 12 6).toInt → (σ 13 i).toInt = fr.toInt → BQ U x y tl a (24 * i) σ → BQ U x y tl a (24 * i + n) s ∧ (s 13 i).toInt = fr.toInt ∧ (i : Int) < (s 12 6).toInt
theorem SPI.st {σ : SI} {fr hr : Int32} : SPI σ σ fr hr 0 := fun _ _ _ _ _ _ _ hi hq h => ⟨h, hq, hi⟩
theorem SPI.sk {σ s1 : SI} {fr hr : Int32} {n : Nat} (h : SPI σ s1 fr hr n) (r : Fr (fun k => 12 ≤ k ∧ k ≤ 17) σ s1) (hn : n < 24)
    (hc : ¬ (4 ≤ (s1 2 n).toInt ∧ (s1 2 n).toInt ≤ 6) ∨ (otherC s1 n fr).toInt = -1 ∨ (toldC s1 n hr).toInt = 1000000 ∨ (0 ≤ (otherC s1 n fr).toInt ∧ (otherC s1 n fr).toInt < 24 ∧ (s1 14 (otherC s1 n fr).toInt.toNat).toInt ≠ -1)) : SPI σ s1 fr hr (n + 1) := by
  intro U x y tl a i hL hi hq hB
  obtain ⟨b1, b2, b3⟩ := h U x y tl a i hL hi hq hB
  have hL1 := hL.wy r
  have gL := hL1 n hn
  refine ⟨?_, b2, b3⟩
  rw [show 24 * i + (n + 1) = 24 * i + n + 1 by omega]
  refine bq_sk b1 hn b3 b2 (fun hu => ?_) (fun w hw hu hd => ?_)
  · have g1 := gL.1.mp hu
    have g2 := gL.2 ⟨g1.1, g1.2.1⟩
    exact ⟨g2.2.2.1, g2.2.2.2.1⟩
  · have g1 := gL.1.mp hu
    have g2 := gL.2 ⟨g1.1, g1.2.1⟩
    have ho := oth_w g2.1 g2.2.1 g2.2.2.2.2.1 hd
    rcases hc with z | z | z | ⟨z1, z2, z3⟩
    · exact absurd ⟨g1.1, g1.2.1⟩ z
    · exfalso; omega
    · exact absurd z g1.2.2
    · rw [ho, Int.toNat_natCast] at z3
      exact z3
theorem SPI.ad {σ s1 s2 : SI} {fr hr na sa la fa : Int32} {n : Nat} (h : SPI σ s1 fr hr n) (r : Fr (fun k => 12 ≤ k ∧ k ≤ 17) σ s1) (R : RCH s1 s2 (otherC s1 n fr) na sa la fa) (hn : n < 24) (hk : 4 ≤ (s1 2 n).toInt ∧ (s1 2 n).toInt ≤ 6) (ht : (toldC s1 n hr).toInt ≠ 1000000) (ho : (otherC s1 n fr).toInt ≠ -1)
    (h14 : 0 ≤ (otherC s1 n fr).toInt → (otherC s1 n fr).toInt < 24 → (s1 14 (otherC s1 n fr).toInt.toNat).toInt = -1) (hna : 0 ≤ fr.toInt → fr.toInt < 24 → na = s1 14 fr.toInt.toNat + 1)
    (hsa : 0 ≤ fr.toInt → fr.toInt < 24 → sa = s1 15 fr.toInt.toNat + (if (s1 (104 + n) 1).toInt = fr.toInt then toldC s1 n hr else -toldC s1 n hr)) : SPI σ s2 fr hr (n + 1) := by
  intro U x y tl a i hL hi hq hB
  obtain ⟨b1, b2, b3⟩ := h U x y tl a i hL hi hq hB
  have hL1 := hL.wy r
  have gL := hL1 n hn
  have g2 := gL.2 hk
  have hU : U n := gL.1.mpr ⟨hk.1, hk.2, ht⟩
  have hfr := b1.fx b3 b2
  obtain ⟨w, hw1, hw2⟩ := oth_ex g2.1 g2.2.1 ho
  have hx24 := g2.2.2.1
  have hy24 := g2.2.2.2.1
  have hw : w < 24 := by rcases hw2 with ⟨-, z⟩ | ⟨-, z⟩ <;> omega
  have h14' : (s1 14 w).toInt = -1 := by
    have t := h14 (by omega) (by omega)
    rw [hw1, Int.toNat_natCast] at t
    exact t
  rw [show 24 * i + (n + 1) = 24 * i + n + 1 by omega]
  refine bq_ad (o := otherC s1 n fr) (oq := (otherC s1 n fr).toInt.toNat) b1 hn b3 b2 hL1.ne hU hw1 hw hw2 h14' (hna hfr.1 hfr.2.1) ?_ rfl R
  rw [hsa hfr.1 hfr.2.1]
  unfold sgn
  have e1 := g2.1
  rw [g2.2.2.2.2.2]
  by_cases z : (s1 (104 + n) 1).toInt = fr.toInt
  · rw [if_pos z, if_pos (by omega)]
  · rw [if_neg z, if_neg (by omega)]
def SPJ (σ s : SI) (fr hr : Int32) (n : Nat) : Prop :=
  ∀ (U : Nat → Prop) (x y : Nat → Nat) (tl : Nat → Int32), LV σ hr U x y tl → 0 ≤ fr.toInt → fr.toInt < 24 → BQ U x y tl fr.toInt.toNat (24 * n) s ∧ (n : Int) ≤ (s 12 6).toInt
def SPD (σ s : SI) (fr hr : Int32) : Prop :=
  ∀ (U : Nat → Prop) (x y : Nat → Nat) (tl : Nat → Int32), LV σ hr U x y tl → 0 ≤ fr.toInt → fr.toInt < 24 → ∃ n : Nat, BQ U x y tl fr.toInt.toNat (24 * n) s ∧ (s 12 6).toInt = (n : Int)
theorem SPJ.st {σ s4 s9 s17 : SI} {fr hr : Int32} (hf : ∀ j, j < 24 → s4 14 j = -1) (hs : s9 = up2 s4 12 6 0) (R : RCH s9 s17 fr 0 0 (-1) (-1)) : SPJ σ s17 fr hr 0 := by
  intro U x y tl hL h0 h24
  have e126 : s9 12 6 = 0 := by rw [hs, up2_s]
  have z0 : (0 : Int32).toInt = 0 := by decide
  have z1 : (-1 : Int32).toInt = -1 := by decide
  rcases R with ⟨-, R⟩ | ⟨R, -⟩
  · rw [e126] at R
    have zn : (0 : Int32).toInt.toNat = 0 := by decide
    rw [zn] at R
    have x12 : (s17 12 6).toInt = 1 := by rw [R, up2_s]; decide
    have x13 : s17 13 0 = fr := by rw [R, up2_o (by omega), up2_s]
    have x14 : ∀ w, w < 24 → s17 14 w = if w = fr.toInt.toNat then 0 else -1 := fun w hw => by
      rw [R, up2_o (by omega), up2_o (by omega), up2_o (by omega), up2_o (by omega), up2_o (by omega)]
      by_cases z : w = fr.toInt.toNat
      · rw [if_pos z, z, up2_s]
      · rw [if_neg z, up2_n z, hs, up2_o (by omega)]
        exact hf w hw
    have x15 : s17 15 fr.toInt.toNat = 0 := by rw [R, up2_o (by omega), up2_o (by omega), up2_o (by omega), up2_o (by omega), up2_s]
    have hfn : fr.toInt.toNat < 24 := by omega
    refine ⟨⟨1, fun _ => fr.toInt.toNat, fun _ => 0, QI.st hfn, by rw [x12]; rfl, fun i hi => ?_, fun w hw => ?_, ?_, x15, fun i h1 h2 => by omega, fun i hi => ?_⟩, by omega⟩
    · have ei : i = 0 := by omega
      rw [ei, x13]
      show fr.toInt = ((fr.toInt.toNat : Nat) : Int)
      omega
    · rw [x14 w hw]
      by_cases z : w = fr.toInt.toNat
      · rw [if_pos z, z0]
        exact ⟨fun _ => ⟨0, by omega, z.symm⟩, fun _ => by omega⟩
      · rw [if_neg z, z1]
        exact ⟨fun q => absurd rfl q, fun q => by obtain ⟨i9, hi9, hv9⟩ := q; exact absurd hv9.symm z⟩
    · rw [x14 _ hfn, if_pos rfl, z0]
    · show 0 ≤ (s17 14 fr.toInt.toNat).toInt ∧ (s17 14 fr.toInt.toNat).toInt ≤ (i : Int)
      rw [x14 _ hfn, if_pos rfl, z0]
      omega
  · exfalso
    rw [e126, z0] at R
    omega
theorem SPJ.go {σ s1 s2 : SI} {fr hr : Int32} {n : Nat} (h : SPJ σ s1 fr hr n) (r : Fr (fun k => 12 ≤ k ∧ k ≤ 17) σ s1) (hn : (n : Int) < (s1 12 6).toInt) (hp : SPI s1 s2 (s1 13 n) hr 24) : SPJ σ s2 fr hr (n + 1) := by
  intro U x y tl hL h0 h24
  obtain ⟨b1, b2⟩ := h U x y tl hL h0 h24
  obtain ⟨c1, -, c3⟩ := hp U x y tl fr.toInt.toNat n (hL.wy r) hn rfl b1
  exact ⟨by rw [show 24 * (n + 1) = 24 * n + 24 by omega]; exact c1, by omega⟩
theorem SPJ.nd {σ s : SI} {fr hr : Int32} {n : Nat} (h : SPJ σ s fr hr n) (hc : (s 12 6).toInt ≤ (n : Int) ∨ 24 ≤ n) : SPD σ s fr hr := by
  intro U x y tl hL h0 h24
  obtain ⟨b1, b2⟩ := h U x y tl hL h0 h24
  refine ⟨n, b1, ?_⟩
  obtain ⟨m, v, e, q1, q2, -⟩ := b1
  have := q1.n24
  omega
def FWb (σ s : SI) (xa ya hr w : Int32) : Prop :=
  ∀ (U : Nat → Prop) (x y : Nat → Nat) (tl : Nat → Int32), LV σ hr U x y tl → ∃ n : Nat, BQ U x y tl (min xa.toInt ya.toInt).toNat (24 * n) s ∧ (s 12 6).toInt = (n : Int) ∧ w = s 14 (max xa.toInt ya.toInt).toNat
theorem fw_mk {σ s : SI} {fr mx xa ya hr : Int32} (h : SPD σ s fr hr) (h1 : fr.toInt = min xa.toInt ya.toInt) (h2 : mx.toInt = max xa.toInt ya.toInt) (hx : 0 ≤ xa.toInt ∧ xa.toInt < 24) (hy : 0 ≤ ya.toInt ∧ ya.toInt < 24) : FWb σ s xa ya hr (s 14 mx.toInt.toNat) := by
  intro U x y tl hL
  obtain ⟨n, a1, a2⟩ := h U x y tl hL (by omega) (by omega)
  rw [h1] at a1
  exact ⟨n, a1, a2, by rw [h2]⟩
def FW (σ s : SI) (xa ya hr w : Int32) : Prop := (¬ (0 ≤ hr.toInt ∧ hr.toInt ≤ (σ 0 8).toInt) ∧ w.toInt = -1) ∨ ((0 ≤ hr.toInt ∧ hr.toInt ≤ (σ 0 8).toInt) ∧ FWb σ s xa ya hr w)
def DC (σ s : SI) (xa : Int32) (xq : Nat) (ya : Int32) (yq : Nat) (hr v : Int32) : Prop :=
  (∃ z, RX 2 σ xa xq ya yq z ∧ v.toInt = z) ∨ ((fl 2 σ xa xq = 0 ∧ fl 2 σ ya yq = 0) ∧ ∃ w, FW σ s xa ya hr w ∧ ((w.toInt = -1 ∧ v = 1000000) ∨ (w.toInt ≠ -1 ∧ v = if xa.toInt ≤ ya.toInt then s 15 (max xa.toInt ya.toInt).toNat else -s 15 (max xa.toInt ya.toInt).toNat)))
def AC (σ : SI) (xa : Int32) (xq : Nat) (ya : Int32) (yq : Nat) (hr v : Int32) : Prop :=
  (∃ z, RX 2 σ xa xq ya yq z ∧ v.toInt = z) ∨ ((fl 2 σ xa xq = 0 ∧ fl 2 σ ya yq = 0) ∧ ∃ s, FW σ s xa ya hr v)
/-! ===== the way that the reference goes ===== -/
def GP (U : Nat → Prop) (x y : Nat → Nat) (f : Nat → Int) (a : Nat) (g lk : Nat → Nat) (k : Nat) : Prop :=
  g 0 = a ∧ ∀ i : Nat, i < k → lk i < 24 ∧ Ld U x y (lk i) (g i) (g (i + 1)) ∧ f (g i) = f a - i ∧ f (g (i + 1)) = f a - i - 1 ∧ ∀ l w, l < lk i → Ld U x y l (g i) w → f w ≠ f a - i - 1
def DS (x : Nat → Nat) (tl : Nat → Int32) (g lk : Nat → Nat) : Nat → Int32
  | 0 => 0
  | k + 1 => DS x tl g lk k + sgn x tl (lk k) (g k)
theorem DS_c {x : Nat → Nat} {tl : Nat → Int32} {g lk g' lk' : Nat → Nat} : ∀ k, (∀ i, i < k → g' i = g i ∧ lk' i = lk i) → DS x tl g' lk' k = DS x tl g lk k
  | 0, _ => rfl
  | k + 1, h => by
    show DS x tl g' lk' k + sgn x tl (lk' k) (g' k) = DS x tl g lk k + sgn x tl (lk k) (g k)
    rw [DS_c k (fun i hi => h i (by omega)), (h k (by omega)).1, (h k (by omega)).2]
theorem othM_ld {σ : SI} {h6 : Int32} {l : Nat} (h : (otherM σ l h6).toInt ≠ -1) : (xM σ l = h6.toInt.toNat ∧ yM σ l = (otherM σ l h6).toInt.toNat) ∨ (yM σ l = h6.toInt.toNat ∧ xM σ l = (otherM σ l h6).toInt.toNat) := by
  unfold otherM at h ⊢
  by_cases e1 : (σ 37 l).toInt = h6.toInt
  · rw [if_pos e1]
    exact Or.inl ⟨by unfold xM; rw [e1], rfl⟩
  · rw [if_neg e1] at h ⊢
    by_cases e2 : (σ 38 l).toInt = h6.toInt
    · rw [if_pos e2]
      exact Or.inr ⟨by unfold yM; rw [e2], rfl⟩
    · rw [if_neg e2] at h
      exact absurd (by decide) h
theorem ldM_oth {σ : SI} {h6 : Int32} {l w : Nat} (hnl : (0 ≤ (σ 37 l).toInt ∧ (σ 37 l).toInt < 24) ∧ 0 ≤ (σ 38 l).toInt ∧ (σ 38 l).toInt < 24) (h6r : 0 ≤ h6.toInt ∧ h6.toInt < 24) (hd : (xM σ l = h6.toInt.toNat ∧ yM σ l = w) ∨ (yM σ l = h6.toInt.toNat ∧ xM σ l = w)) : (otherM σ l h6).toInt ≠ -1 ∧ (otherM σ l h6).toInt.toNat = w := by
  unfold otherM
  unfold xM yM at hd
  by_cases e1 : (σ 37 l).toInt = h6.toInt
  · rw [if_pos e1]
    rcases hd with ⟨a1, a2⟩ | ⟨a1, a2⟩
    · exact ⟨by omega, a2⟩
    · exact ⟨by omega, by omega⟩
  · rw [if_neg e1]
    rcases hd with ⟨a1, a2⟩ | ⟨a1, a2⟩
    · exfalso; omega
    · have e2 : (σ 38 l).toInt = h6.toInt := by omega
      rw [if_pos e2]
      exact ⟨by omega, a2⟩
def GPI (σ s4 : SI) (hr : Int32) (hq a : Nat) (h6 : Int32) : Prop :=
  ∃ (g lk : Nat → Nat) (k : Nat), GP (UM σ hr hq) (xM σ) (yM σ) (fM s4) a g lk k ∧ g k = h6.toInt.toNat ∧ (s4 35 41).toInt = (k : Int) ∧ s4 35 43 = DS (xM σ) (fun l => toldM σ l hr hq) g lk k ∧ (s4 68 h6.toInt.toNat).toInt + (k : Int) = (s4 68 a).toInt
theorem GPI.st {σ s4 : SI} {hr h6 : Int32} {hq a : Nat} (ha : h6.toInt.toNat = a) (h41 : s4 35 41 = 0) (h43 : s4 35 43 = 0) : GPI σ s4 hr hq a h6 :=
  ⟨fun _ => a, fun _ => 0, 0, ⟨rfl, fun i hi => absurd hi (Nat.not_lt_zero i)⟩, ha.symm, by rw [h41]; decide, h43, by rw [ha]; omega⟩
theorem GPI.go {σ s4 s' : SI} {hr h6 x6 : Int32} {hq a j : Nat} (h : GPI σ s4 hr hq a h6) (hg : GdM s4 hr hq h6 j) (hl : ∀ i, i < j → ¬ GdM s4 hr hq h6 i) (hj : j < 24) (hn : LnM σ) (hM : MGr σ s4) (h6r : 0 ≤ h6.toInt ∧ h6.toInt < 24)
    (h41 : (s' 35 41).toInt = (s4 35 41).toInt + 1) (h43 : s' 35 43 = s4 35 43 + (if (σ 37 j).toInt = h6.toInt then toldM s4 j hr hq else -toldM s4 j hr hq)) (hf : ∀ k, s' 68 k = s4 68 k) (hx : x6.toInt = (otherM s4 j h6).toInt) : GPI σ s' hr hq a x6 := by
  obtain ⟨g, lk, k, ⟨g0, gi⟩, gk, e41, e43, ef⟩ := h
  obtain ⟨q1, q2, q3, q4, q5⟩ := hg
  have e36 : s4 36 = σ 36 := hM.1 36 (by omega) (by omega)
  have e37 : s4 37 = σ 37 := hM.1 37 (by omega) (by omega)
  rw [e36] at q1 q2
  rw [toldM_g hM] at q3
  rw [otherM_g hM] at q4 q5 hx
  have hU : UM σ hr hq j := ⟨q1, q2, q3⟩
  have hlj := hn j hj ⟨q1, q2⟩
  have fe : fM s' = fM s4 := by
    funext z
    show (s' 68 z).toInt = (s4 68 z).toInt
    rw [hf]
  have hLd : Ld (UM σ hr hq) (xM σ) (yM σ) j (g k) x6.toInt.toNat := by
    refine ⟨hU, ?_⟩
    rw [hx, gk]
    exact othM_ld q4
  have f1 : fM s4 (g k) = fM s4 a - (k : Int) := by
    rw [gk]
    show (s4 68 h6.toInt.toNat).toInt = (s4 68 a).toInt - (k : Int)
    omega
  have f2 : fM s4 x6.toInt.toNat = fM s4 a - (k : Int) - 1 := by
    rw [hx]
    show (s4 68 (otherM σ j h6).toInt.toNat).toInt = (s4 68 a).toInt - (k : Int) - 1
    omega
  refine ⟨fun i => if i = k + 1 then x6.toInt.toNat else g i, fun i => if i = k then j else lk i, k + 1, ⟨?_, fun i hi => ?_⟩, ?_, by omega, ?_, ?_⟩
  · show (if 0 = k + 1 then x6.toInt.toNat else g 0) = a
    rw [if_neg (by omega)]
    exact g0
  · rw [fe]
    show (if i = k then j else lk i) < 24 ∧ Ld _ _ _ (if i = k then j else lk i) (if i = k + 1 then x6.toInt.toNat else g i) (if i + 1 = k + 1 then x6.toInt.toNat else g (i + 1)) ∧ fM s4 (if i = k + 1 then x6.toInt.toNat else g i) = fM s4 a - (i : Int) ∧ fM s4 (if i + 1 = k + 1 then x6.toInt.toNat else g (i + 1)) = fM s4 a - (i : Int) - 1 ∧ ∀ l w, l < (if i = k then j else lk i) → Ld _ _ _ l (if i = k + 1 then x6.toInt.toNat else g i) w → fM s4 w ≠ fM s4 a - (i : Int) - 1
    by_cases z : i = k
    · rw [if_pos z, if_neg (show ¬ i = k + 1 by omega), if_pos (show i + 1 = k + 1 by omega), z]
      refine ⟨hj, hLd, f1, f2, fun l w hll hld hfw => ?_⟩
      have u := hld.1
      have hnl := hn l (by omega) ⟨u.1, u.2.1⟩
      have hd2 := hld.2
      rw [gk] at hd2
      have ho := ldM_oth hnl h6r hd2
      refine hl l hll ⟨by rw [e36]; exact u.1, by rw [e36]; exact u.2.1, by rw [toldM_g hM]; exact u.2.2, by rw [otherM_g hM]; exact ho.1, ?_⟩
      rw [otherM_g hM, ho.2]
      have hfw : (s4 68 w).toInt = (s4 68 a).toInt - (k : Int) - 1 := hfw
      omega
    · rw [if_neg z, if_neg (show ¬ i = k + 1 by omega), if_neg (show ¬ i + 1 = k + 1 by omega)]
      exact gi i (by omega)
  · show (if k + 1 = k + 1 then x6.toInt.toNat else g (k + 1)) = x6.toInt.toNat
    rw [if_pos rfl]
  · show s' 35 43 = DS (xM σ) (fun l => toldM σ l hr hq) (fun i => if i = k + 1 then x6.toInt.toNat else g i) (fun i => if i = k then j else lk i) k + sgn (xM σ) (fun l => toldM σ l hr hq) (if k = k then j else lk k) (if k = k + 1 then x6.toInt.toNat else g k)
    rw [if_pos rfl, if_neg (show ¬ k = k + 1 by omega), DS_c (g := g) (lk := lk) k (fun i hi => ⟨if_neg (by omega), if_neg (by omega)⟩), h43, e43, gk, toldM_g hM]
    unfold sgn
    by_cases z : (σ 37 j).toInt = h6.toInt
    · rw [if_pos z, if_pos (show xM σ j = h6.toInt.toNat by unfold xM; rw [z])]
    · rw [if_neg z, if_neg (show ¬ xM σ j = h6.toInt.toNat by unfold xM; omega)]
  · rw [hf, hf, hx]
    omega
def GO (σ s1 : SI) (xa ya hr : Int32) (hq : Nat) (v : Int32) : Prop :=
  ∃ f : Nat → Int, BFI (UM σ hr hq) (xM σ) (yM σ) (max xa.toInt ya.toInt).toNat f ∧ BFL (UM σ hr hq) (xM σ) (yM σ) 24 0 f ∧
    ((v = 0 ∧ 99 ≤ f (min xa.toInt ya.toInt).toNat) ∨ (v = 1 ∧ ∃ (g lk : Nat → Nat) (k : Nat), GP (UM σ hr hq) (xM σ) (yM σ) f (min xa.toInt ya.toInt).toNat g lk k ∧ g k = (max xa.toInt ya.toInt).toNat ∧ (k : Int) = f (min xa.toInt ya.toInt).toNat ∧ k ≤ 23 ∧ (s1 35 41).toInt = (k : Int) ∧
      s1 35 43 = if xa.toInt ≤ ya.toInt then DS (xM σ) (fun l => toldM σ l hr hq) g lk k else -DS (xM σ) (fun l => toldM σ l hr hq) g lk k))
theorem go0 {σ s s1 : SI} {xa ya hr a4 b5 : Int32} {hq : Nat} (hB : BFI (UM σ hr hq) (xM σ) (yM σ) b5.toInt.toNat (fM s)) (hL : BFL (UM σ hr hq) (xM σ) (yM σ) 24 0 (fM s)) (hab : a4.toInt = min xa.toInt ya.toInt ∧ b5.toInt = max xa.toInt ya.toInt) (h : 99 ≤ (s 68 a4.toInt.toNat).toInt) : GO σ s1 xa ya hr hq 0 := by
  rw [hab.2] at hB
  rw [hab.1] at h
  exact ⟨fM s, hB, hL, Or.inl ⟨rfl, h⟩⟩
theorem go1 {σ s s1 : SI} {xa ya hr a4 b5 h6 : Int32} {hq : Nat} (hB : BFI (UM σ hr hq) (xM σ) (yM σ) b5.toInt.toNat (fM s)) (hL : BFL (UM σ hr hq) (xM σ) (yM σ) 24 0 (fM s)) (hab : a4.toInt = min xa.toInt ya.toInt ∧ b5.toInt = max xa.toInt ya.toInt) (h : GPI σ s hr hq a4.toInt.toNat h6) (h6b : h6.toInt = b5.toInt) (hk : (s 35 41).toInt ≤ 23)
    (h41 : s1 35 41 = s 35 41) (h43 : s1 35 43 = if xa.toInt ≤ ya.toInt then s 35 43 else -s 35 43) : GO σ s1 xa ya hr hq 1 := by
  obtain ⟨g, lk, k, q1, q2, q3, q4, q5⟩ := h
  have hb0 := hB.2.1
  rw [h6b] at q2 q5
  have hb0 : (s 68 b5.toInt.toNat).toInt = 0 := hb0
  rw [hab.1] at q1 q5
  rw [hab.2] at hB q2 q5 hb0
  refine ⟨fM s, hB, hL, Or.inr ⟨rfl, g, lk, k, q1, q2, ?_, by omega, by rw [h41]; exact q3, ?_⟩⟩
  · show (k : Int) = (s 68 (min xa.toInt ya.toInt).toNat).toInt
    omega
  · rw [h43, q4]
theorem go_k {σ s s1 : SI} {xa ya hr v : Int32} {hq : Nat} (h : GO σ s xa ya hr hq v) (h41 : s1 35 41 = s 35 41) (h43 : s1 35 43 = s 35 43) : GO σ s1 xa ya hr hq v := by
  unfold GO
  rw [h41, h43]
  exact h
def DM (σ : SI) (xa : Int32) (xq : Nat) (ya : Int32) (yq : Nat) (hr : Int32) (hq : Nat) (v : Int32) : Prop :=
  (∃ z, RX 36 σ xa xq ya yq z ∧ v.toInt = z) ∨ ((fl 36 σ xa xq = 0 ∧ fl 36 σ ya yq = 0) ∧ ((¬ (0 ≤ hr.toInt ∧ hr.toInt ≤ (σ 35 29).toInt) ∧ v = 1000000) ∨ ((0 ≤ hr.toInt ∧ hr.toInt ≤ (σ 35 29).toInt) ∧ ∃ w s2, GO σ s2 xa ya hr hq w ∧ ((w = 0 ∧ v = 1000000) ∨ (w = 1 ∧ v = s2 35 43)))))
def AM (σ : SI) (xa : Int32) (xq : Nat) (ya : Int32) (yq : Nat) (hr : Int32) (hq : Nat) (v : Int32) : Prop :=
  (∃ z, RX 36 σ xa xq ya yq z ∧ v.toInt = z) ∨ ((fl 36 σ xa xq = 0 ∧ fl 36 σ ya yq = 0) ∧ ((¬ (0 ≤ hr.toInt ∧ hr.toInt ≤ (σ 35 29).toInt) ∧ v.toInt = -1) ∨ ((0 ≤ hr.toInt ∧ hr.toInt ≤ (σ 35 29).toInt) ∧ ∃ w s2, GO σ s2 xa ya hr hq w ∧ ((w = 0 ∧ v.toInt = -1) ∨ (w = 1 ∧ v.toInt = (s2 35 41).toInt)))))
abbrev po3_J7_fill_53178 (σ : SI) (τ : SL) (xa : Int32) : SI × SL → Prop := fun u => ((u.2 = τ) ∧ (Fr (fun k => 12 ≤ k ∧ k ≤ 17) σ u.1) ∧ (∀ j, j < 24 → u.1 14 j = xa))
set_option maxRecDepth 100000 in
set_option maxHeartbeats 4000000 in
theorem c3_J7_fill_53178 (l : Launch) {G : Gx} {A : Nat → Prop} (hG : GOk G A) (σ : SI) (τ : SL) (xa : Int32) : MV l G A 0 yJ7_fill_53178 cJ7_fill_53178 4 none [.ref (G.2.1 14), .int xa] (σ, τ) (po3_J7_fill_53178 σ τ xa) := by
  refine met_of (own := RJ7) (plainJ7 rfl) rfl [(0, .ref (G.2.1 14)), (1, .int xa)] rfl (Nat.le_of_ble_eq_true rfl) ?_
  intro p e s m args below meth c ls hC hK hR hl
  have hS : va_S A s.heap s.heap [] := va_S.rf
  refine lv_iconst (v := 0) hC.x hC.b dJ7_fill_53178_0 (by decide) ?_
  refine lv_istore_n (lv' := [(2, .int (0 : Int32)), (0, .ref (G.2.1 14)), (1, .int xa)]) hC.x hC.b dJ7_fill_53178_1 rfl hl (by decide) rfl (fun ls hl => ?_)
  refine lv_aload_n hC.x hC.b dJ7_fill_53178_2 rfl (lv_at hl 1 rfl) ?_
  refine ralen (t := 0) hC hK hR (by decide) (ct_lengths G _ _) (v := 24) rfl dJ7_fill_53178_3 ?_
  refine lv_istore_n (lv' := [(3, .int (24 : Int32)), (2, .int (0 : Int32)), (0, .ref (G.2.1 14)), (1, .int xa)]) hC.x hC.b dJ7_fill_53178_4 rfl hl (by decide) rfl (fun ls hl => ?_)
  have L_5 : ∀ (F : Nat) (n : Nat) (s1 : SI), (24 - n) < F → (n ≤ 24) → (∀ j, j < n → s1 14 j = xa) → (Fr (fun k => 12 ≤ k ∧ k ≤ 17) σ s1) → ∀ (H : Heap) (locs : List Loc) (ls : Array Slot), RepH G s1 τ H → va_S A s.heap H locs → lv_has ls 4 [(0, .ref (G.2.1 14)), (1, .int xa), (2, .int (nI n)), (3, .int (24 : Int32))] → W p l e (rmD 0) s m args below meth c H locs 0 0 (MQ below (va_Qv (po3_J7_fill_53178 σ τ xa) (BU G) A) args s 0 0 A) (F0 m 5 ls []) := by
    intro F
    induction F with
    | zero => intro n s1 hm; exact absurd hm (Nat.not_lt_zero _)
    | succ F ih_5 =>
      intro n s1 hm_5 hi0_5 hi1_5 hi2_5 H locs ls hR hS hl
      refine lv_iload_n hC.x hC.b dJ7_fill_53178_5 rfl (lv_at hl 2 rfl) ?_
      refine lv_iload_n hC.x hC.b dJ7_fill_53178_6 rfl (lv_at hl 3 rfl) ?_
      refine bi_ge (tgt := 20) (a := (n : Int)) (b := 24) hC.x hC.b (nI_T n (by omega)) rfl dJ7_fill_53178_7 (by decide) (fun c_1 => ?_) (fun c_1 => ?_)
      · skip
        exact retv hC hK hR hS (⟨by rfl, by exact hi2_5, by exact fun j hj => hi1_5 j (by omega)⟩) dJ7_fill_53178_20
      · skip
        refine lv_aload_n hC.x hC.b dJ7_fill_53178_10 rfl (lv_at hl 0 rfl) ?_
        refine lv_iload_n hC.x hC.b dJ7_fill_53178_11 rfl (lv_at hl 2 rfl) ?_
        refine lv_iload_n hC.x hC.b dJ7_fill_53178_12 rfl (lv_at hl 1 rfl) ?_
        refine ast hC hK hG hR hS (fun _ => ct_lengths G _ _) (nI_T n (by omega)) (by omega) (by omega) (Int.toNat_natCast _) dJ7_fill_53178_13 (fun s_2 es_3 H locs hR hS => ?_)
        refine lv_iinc (v := nI (n + 1)) (lv' := [(2, .int (nI (n + 1))), (0, .ref (G.2.1 14)), (1, .int xa), (3, .int (24 : Int32))]) hC.x hC.b dJ7_fill_53178_14 hl (k := 2) rfl (nI_succ _).symm (by decide) rfl (fun ls hl => ?_)
        refine lv_goto (tgt := 5) hC.x hC.b dJ7_fill_53178_17 (by decide) ?_
        exact ih_5 (n + 1) s_2 (by omega) (by first | omega | assumption) (by subst es_3; intro k hk; by_cases e9 : k = n; (subst e9; rw [up2_s]); (rw [up2_n e9]; exact hi1_5 k (by omega))) (by rw [es_3]; exact Fr.up (hi2_5) (by first | omega | (dsimp only; omega))) _ _ _ hR hS (lv_sub hl [1, 2, 0, 3] rfl)
  exact L_5 _ 0 σ (Nat.lt_succ_self _) (by first | omega | assumption) (by intro j hj; omega) Fr.rf _ _ _ hR hS (lv_sub hl [2, 3, 1, 0] rfl)

abbrev po3_X8_sumTo (σ : SI) (τ : SL) (pl : Int32) (q : Nat) : Int32 → SI × SL → Prop := fun v u => u = (σ, τ) ∧ (((v = σ 15 q) ∧ (0 ≤ pl.toInt) ∧ (pl.toInt < 24)) ∨ ((v = (0)) ∧ (¬ (0 ≤ pl.toInt ∧ pl.toInt < 24))))
set_option maxRecDepth 100000 in
set_option maxHeartbeats 4000000 in
theorem c3_X8_sumTo (l : Launch) {G : Gx} {A : Nat → Prop} (hG : GOk G A) (σ : SI) (τ : SL) (pl : Int32) (q : Nat) (hp_q : pl.toInt.toNat = q) : MI l G A 0 yX8_sumTo cX8_sumTo 2 (some .int) [.ref (G.2.1 12), .int pl] (σ, τ) (po3_X8_sumTo σ τ pl q) := by
  refine met_of (own := RX8) (by decide +kernel) rfl [(0, .ref (G.2.1 12)), (1, .int pl)] rfl (Nat.le_of_ble_eq_true rfl) ?_
  intro p e s m args below meth c ls hC hK hR hl
  have hS : va_S A s.heap s.heap [] := va_S.rf
  refine lv_iload_n hC.x hC.b dX8_sumTo_0 rfl (lv_at hl 1 rfl) ?_
  refine bz_lt (tgt := 22) (a := pl.toInt) (b := 0) hC.x hC.b rfl rfl dX8_sumTo_1 (by decide) (fun c_1 => ?_) (fun c_1 => ?_)
  · skip
    refine lv_iconst (v := 0) hC.x hC.b dX8_sumTo_22 (by decide) ?_
    exact reti hC hK hR hS ⟨rfl, (by first | exact Or.inl (⟨by first | rfl | omega, by first | omega | assumption, by first | omega | assumption⟩) | exact Or.inr ((⟨by first | rfl | omega, by first | omega | assumption⟩)) | exact False.elim (by omega))⟩ dX8_sumTo_23
  · skip
    refine lv_iload_n hC.x hC.b dX8_sumTo_4 rfl (lv_at hl 1 rfl) ?_
    refine lv_aload_n hC.x hC.b dX8_sumTo_5 rfl (lv_at hl 0 rfl) ?_
    refine rget hC hK hR (ct_ways G _ _) rfl uin_X8 3 (by decide) TF_X8_18 rfl dX8_sumTo_6 ?_
    refine ralen (t := 0) hC hK hR (by decide) (ct_sums G _ _) (v := 24) rfl dX8_sumTo_9 ?_
    refine bi_ge (tgt := 22) (a := pl.toInt) (b := 24) hC.x hC.b rfl rfl dX8_sumTo_10 (by decide) (fun c_2 => ?_) (fun c_2 => ?_)
    · skip
      refine lv_iconst (v := 0) hC.x hC.b dX8_sumTo_22 (by decide) ?_
      exact reti hC hK hR hS ⟨rfl, (by first | exact Or.inl (⟨by first | rfl | omega, by first | omega | assumption, by first | omega | assumption⟩) | exact Or.inr ((⟨by first | rfl | omega, by first | omega | assumption⟩)) | exact False.elim (by omega))⟩ dX8_sumTo_23
    · skip
      refine lv_aload_n hC.x hC.b dX8_sumTo_13 rfl (lv_at hl 0 rfl) ?_
      refine rget hC hK hR (ct_ways G _ _) rfl uin_X8 3 (by decide) TF_X8_18 rfl dX8_sumTo_14 ?_
      refine lv_iload_n hC.x hC.b dX8_sumTo_17 rfl (lv_at hl 1 rfl) ?_
      refine ald hC hK hR (ct_sums G _ _) rfl (by omega) (by omega) hp_q dX8_sumTo_18 ?_
      refine lv_goto (tgt := 23) hC.x hC.b dX8_sumTo_19 (by decide) ?_
      exact reti hC hK hR hS ⟨rfl, (by first | exact Or.inl (⟨by first | rfl | omega, by first | omega | assumption, by first | omega | assumption⟩) | exact Or.inr ((⟨by first | rfl | omega, by first | omega | assumption⟩)) | exact False.elim (by omega))⟩ dX8_sumTo_23

abbrev po3_X8_reach (σ : SI) (τ : SL) (pl : Int32) (na : Int32) (sa : Int32) (la : Int32) (fa : Int32) : SI × SL → Prop := fun u => ((Fr (fun k => 12 ≤ k ∧ k ≤ 17) σ u.1) ∧ (0 ≤ (u.1 12 6).toInt) ∧ (RCH σ u.1 pl na sa la fa))
set_option maxRecDepth 100000 in
set_option maxHeartbeats 4000000 in
theorem c3_X8_reach (l : Launch) {G : Gx} {A : Nat → Prop} (hG : GOk G A) (σ : SI) (τ : SL) (pl : Int32) (na : Int32) (sa : Int32) (la : Int32) (fa : Int32) (hqd : 0 ≤ (σ 12 6).toInt) : MV l G A 0 yX8_reach cX8_reach 6 none [.ref (G.2.1 12), .int pl, .int na, .int sa, .int la, .int fa] (σ, τ) (po3_X8_reach σ τ pl na sa la fa) := by
  refine met_of (own := RX8) (by decide +kernel) rfl [(0, .ref (G.2.1 12)), (1, .int pl), (2, .int na), (3, .int sa), (4, .int la), (5, .int fa)] rfl (Nat.le_of_ble_eq_true rfl) ?_
  intro p e s m args below meth c ls hC hK hR hl
  have hS : va_S A s.heap s.heap [] := va_S.rf
  refine lv_iload_n hC.x hC.b dX8_reach_0 rfl (lv_at hl 1 rfl) ?_
  refine bz_lt (tgt := 19) (a := pl.toInt) (b := 0) hC.x hC.b rfl rfl dX8_reach_1 (by decide) (fun c_1 => ?_) (fun c_1 => ?_)
  · skip
    exact retv hC hK hR hS (⟨by exact Fr.rf, by first | omega | (dsimp only; omega), by (try dsimp only); first | (refine Or.inl ⟨by omega, ?_⟩; (repeat rw [up2_o (by omega)])) | exact Or.inr ⟨by omega, rfl⟩⟩) dX8_reach_19
  · skip
    refine lv_iload_n hC.x hC.b dX8_reach_4 rfl (lv_at hl 1 rfl) ?_
    refine lv_bipush (v := 24) hC.x hC.b dX8_reach_5 (by decide) ?_
    refine bi_ge (tgt := 19) (a := pl.toInt) (b := 24) hC.x hC.b rfl rfl dX8_reach_7 (by decide) (fun c_2 => ?_) (fun c_2 => ?_)
    · skip
      exact retv hC hK hR hS (⟨by exact Fr.rf, by first | omega | (dsimp only; omega), by (try dsimp only); first | (refine Or.inl ⟨by omega, ?_⟩; (repeat rw [up2_o (by omega)])) | exact Or.inr ⟨by omega, rfl⟩⟩) dX8_reach_19
    · skip
      refine lv_aload_n hC.x hC.b dX8_reach_10 rfl (lv_at hl 0 rfl) ?_
      refine rget hC hK hR (ct_ways G _ _) rfl uin_X8 6 (by decide) TF_X8_27 rfl dX8_reach_11 ?_
      refine lv_bipush (v := 24) hC.x hC.b dX8_reach_14 (by decide) ?_
      refine bi_lt (tgt := 20) (a := (σ 12 6).toInt) (b := 24) hC.x hC.b rfl rfl dX8_reach_16 (by decide) (fun c_3 => ?_) (fun c_3 => ?_)
      · skip
        refine lv_aload_n hC.x hC.b dX8_reach_20 rfl (lv_at hl 0 rfl) ?_
        refine rget hC hK hR (ct_ways G _ _) rfl uin_X8 2 (by decide) TF_X8_15 rfl dX8_reach_21 ?_
        refine lv_iload_n hC.x hC.b dX8_reach_24 rfl (lv_at hl 1 rfl) ?_
        refine lv_iload_n hC.x hC.b dX8_reach_25 rfl (lv_at hl 2 rfl) ?_
        refine ast hC hK hG hR hS (fun _ => ct_lengths G _ _) rfl (by omega) (by omega) rfl dX8_reach_26 (fun s_4 es_5 H locs hR hS => ?_)
        refine lv_aload_n hC.x hC.b dX8_reach_27 rfl (lv_at hl 0 rfl) ?_
        refine rget hC hK hR (ct_ways G _ _) rfl uin_X8 3 (by decide) TF_X8_18 rfl dX8_reach_28 ?_
        refine lv_iload_n hC.x hC.b dX8_reach_31 rfl (lv_at hl 1 rfl) ?_
        refine lv_iload_n hC.x hC.b dX8_reach_32 rfl (lv_at hl 3 rfl) ?_
        refine ast hC hK hG hR hS (fun _ => ct_sums G _ _) rfl (by omega) (by omega) rfl dX8_reach_33 (fun s_6 es_7 H locs hR hS => ?_)
        refine lv_aload_n hC.x hC.b dX8_reach_34 rfl (lv_at hl 0 rfl) ?_
        refine rget hC hK hR (ct_ways G _ _) rfl uin_X8 4 (by decide) TF_X8_21 rfl dX8_reach_35 ?_
        refine lv_iload_n hC.x hC.b dX8_reach_38 rfl (lv_at hl 1 rfl) ?_
        refine lv_iload hC.x hC.b dX8_reach_39 (lv_at hl 4 rfl) ?_
        refine ast hC hK hG hR hS (fun _ => ct_lastLinks G _ _) rfl (by omega) (by omega) rfl dX8_reach_41 (fun s_8 es_9 H locs hR hS => ?_)
        refine lv_aload_n hC.x hC.b dX8_reach_42 rfl (lv_at hl 0 rfl) ?_
        refine rget hC hK hR (ct_ways G _ _) rfl uin_X8 5 (by decide) TF_X8_24 rfl dX8_reach_43 ?_
        refine lv_iload_n hC.x hC.b dX8_reach_46 rfl (lv_at hl 1 rfl) ?_
        refine lv_iload hC.x hC.b dX8_reach_47 (lv_at hl 5 rfl) ?_
        refine ast hC hK hG hR hS (fun _ => ct_ahead G _ _) rfl (by omega) (by omega) rfl dX8_reach_49 (fun s_10 es_11 H locs hR hS => ?_)
        refine lv_aload_n hC.x hC.b dX8_reach_50 rfl (lv_at hl 0 rfl) ?_
        refine rget hC hK hR (ct_ways G _ _) rfl uin_X8 1 (by decide) TF_X8_9 rfl dX8_reach_51 ?_
        refine lv_aload_n hC.x hC.b dX8_reach_54 rfl (lv_at hl 0 rfl) ?_
        refine rget hC hK hR (ct_ways G _ _) rfl uin_X8 6 (by decide) TF_X8_27 rfl dX8_reach_55 ?_
        have rd_12 : (s_10 12 6).toInt = (σ 12 6).toInt := congrArg Int32.toInt (Eq.trans (show s_10 12 6 = s_8 12 6 from (by rw [es_11]; exact up2_o (by omega))) (Eq.trans (show s_8 12 6 = s_6 12 6 from (by rw [es_9]; exact up2_o (by omega))) (Eq.trans (show s_6 12 6 = s_4 12 6 from (by rw [es_7]; exact up2_o (by omega))) (show s_4 12 6 = σ 12 6 from (by rw [es_5]; exact up2_o (by omega))))))
        refine lv_iload_n hC.x hC.b dX8_reach_58 rfl (lv_at hl 1 rfl) ?_
        refine ast hC hK hG hR hS (fun _ => ct_queue G _ _) rfl (by omega) (by omega) rfl dX8_reach_59 (fun s_13 es_14 H locs hR hS => ?_)
        refine lv_aload_n hC.x hC.b dX8_reach_60 rfl (lv_at hl 0 rfl) ?_
        refine lv_dup hC.x hC.b dX8_reach_61 rfl ?_
        refine rget hC hK hR (ct_ways G _ _) rfl uin_X8 6 (by decide) TF_X8_27 rfl dX8_reach_62 ?_
        have rd_15 : (s_13 12 6).toInt = (σ 12 6).toInt := congrArg Int32.toInt (Eq.trans (show s_13 12 6 = s_10 12 6 from (by rw [es_14]; exact up2_o (by omega))) (Eq.trans (show s_10 12 6 = s_8 12 6 from (by rw [es_11]; exact up2_o (by omega))) (Eq.trans (show s_8 12 6 = s_6 12 6 from (by rw [es_9]; exact up2_o (by omega))) (Eq.trans (show s_6 12 6 = s_4 12 6 from (by rw [es_7]; exact up2_o (by omega))) (show s_4 12 6 = σ 12 6 from (by rw [es_5]; exact up2_o (by omega)))))))
        refine lv_iconst (v := 1) hC.x hC.b dX8_reach_65 (by decide) ?_
        refine lv_iadd hC.x hC.b dX8_reach_66 ?_
        have pr_16 : ((s_13 12 6) + (1 : Int32)).toInt = ((s_13 12 6).toInt + 1) := addI rfl rfl (by omega) (by omega)
        refine rputi hC hK hG hR hS (ct_ways G _ _) rfl uin_X8 tyX8 tyX8_ok nmX8 6 (by decide) TF_X8_27 rfl (Or.inl rfl) (Nat.le_of_ble_eq_true rfl) rfl (ct_ways G _ _) dX8_reach_67 (fun s_18 es_17 H locs hR hS => ?_)
        have rd_19 : (s_18 12 6).toInt = ((s_13 12 6) + (1 : Int32)).toInt := congrArg Int32.toInt (show s_18 12 6 = ((s_13 12 6) + (1 : Int32)) from (by rw [es_17]; exact up2_s))
        exact retv hC hK hR hS (⟨by exact (by rw [es_17]; exact Fr.up ((by rw [es_14]; exact Fr.up ((by rw [es_11]; exact Fr.up ((by rw [es_9]; exact Fr.up ((by rw [es_7]; exact Fr.up ((by rw [es_5]; exact Fr.up (Fr.rf) (by first | omega | (dsimp only; omega)))) (by first | omega | (dsimp only; omega)))) (by first | omega | (dsimp only; omega)))) (by first | omega | (dsimp only; omega)))) (by first | omega | (dsimp only; omega)))) (by first | omega | (dsimp only; omega))), by first | omega | (dsimp only; omega), by subst es_17; subst es_14; subst es_11; subst es_9; subst es_7; subst es_5; ((try dsimp only); first | (refine Or.inl ⟨by omega, ?_⟩; (repeat rw [up2_o (by omega)])) | exact Or.inr ⟨by omega, rfl⟩)⟩) dX8_reach_70
      · skip
        exact retv hC hK hR hS (⟨by exact Fr.rf, by first | omega | (dsimp only; omega), by (try dsimp only); first | (refine Or.inl ⟨by omega, ?_⟩; (repeat rw [up2_o (by omega)])) | exact Or.inr ⟨by omega, rfl⟩⟩) dX8_reach_19

abbrev po3_X8_spreadOn (σ : SI) (τ : SL) (fr : Int32) (hr : Int32) : SI × SL → Prop := fun u => ((Fr (fun k => 12 ≤ k ∧ k ≤ 17) σ u.1) ∧ (0 ≤ (u.1 12 6).toInt) ∧ (SPI σ u.1 fr hr 24))
set_option maxRecDepth 100000 in
set_option maxHeartbeats 4000000 in
theorem c3_X8_spreadOn (l : Launch) {G : Gx} {A : Nat → Prop} (hG : GOk G A) (σ : SI) (τ : SL) (fr : Int32) (hr : Int32) (hqd : 0 ≤ (σ 12 6).toInt) : MV l G A 2 yX8_spreadOn cX8_spreadOn 8 none [.ref (G.2.1 12), .int fr, .int hr] (σ, τ) (po3_X8_spreadOn σ τ fr hr) := by
  refine met_of (own := RX8) (by decide +kernel) rfl [(0, .ref (G.2.1 12)), (1, .int fr), (2, .int hr)] rfl (Nat.le_of_ble_eq_true rfl) ?_
  intro p e s m args below meth c ls hC hK hR hl
  have hS : va_S A s.heap s.heap [] := va_S.rf
  refine lv_iconst (v := 0) hC.x hC.b dX8_spreadOn_0 (by decide) ?_
  refine lv_istore_n (lv' := [(3, .int (0 : Int32)), (0, .ref (G.2.1 12)), (1, .int fr), (2, .int hr)]) hC.x hC.b dX8_spreadOn_1 rfl hl (by decide) rfl (fun ls hl => ?_)
  have L_2 : ∀ (F : Nat) (n : Nat) (s1 : SI) (t1 : SL), (24 - n) < F → (n ≤ 24) → (0 ≤ (s1 12 6).toInt) → (SPI σ s1 fr hr n) → (Fr (fun k => 12 ≤ k ∧ k ≤ 17) σ s1) → ∀ (H : Heap) (locs : List Loc) (ls : Array Slot), RepH G s1 t1 H → va_S A s.heap H locs → lv_has ls 8 [(0, .ref (G.2.1 12)), (1, .int fr), (2, .int hr), (3, .int (nI n))] → W p l e (rmD 2) s m args below meth c H locs 0 0 (MQ below (va_Qv (po3_X8_spreadOn σ τ fr hr) (BU G) A) args s 0 0 A) (F0 m 2 ls []) := by
    intro F
    induction F with
    | zero => intro n s1 t1 hm; exact absurd hm (Nat.not_lt_zero _)
    | succ F ih_2 =>
      intro n s1 t1 hm_2 hi0_2 hi1_2 hi2_2 hi3_2 H locs ls hR hS hl
      have hnI := nI_T n (by omega)
      refine lv_iload_n hC.x hC.b dX8_spreadOn_2 rfl (lv_at hl 3 rfl) ?_
      refine lv_bipush (v := 24) hC.x hC.b dX8_spreadOn_3 (by decide) ?_
      refine bi_ge (tgt := 116) (a := (n : Int)) (b := 24) hC.x hC.b (nI_T n (by omega)) rfl dX8_spreadOn_5 (by decide) (fun c_1 => ?_) (fun c_1 => ?_)
      · skip
        exact retv hC hK hR hS (⟨by exact hi3_2, by first | omega | (dsimp only; omega), by (try dsimp only); (have e9 : n = 24 := by omega); exact e9 ▸ hi2_2⟩) dX8_spreadOn_116
      · skip
        refine lv_aload_n hC.x hC.b dX8_spreadOn_8 rfl (lv_at hl 0 rfl) ?_
        refine rget hC hK hR (ct_ways G _ _) rfl uin_X8 0 (by decide) TF_X8_31 rfl dX8_spreadOn_9 ?_
        refine lv_iload_n hC.x hC.b dX8_spreadOn_12 rfl (lv_at hl 3 rfl) ?_
        have av_2 : (nI n).toInt = (n : Int) := (nI_T n (by omega))
        refine goqp (runV (As := [.int (nI n)]) (rest := []) hC hK hR hl.1 (c_X5_linkAt l hG s1 t1 (nI n) n (by first | rfl | (rw [show (nI n).toInt = (n : Int) from (nI_T n (by omega))]; done) | (rw [show (nI n).toInt = (n : Int) from (nI_T n (by omega))]; exact (Int.toNat_natCast _))) ) (call_b hC.ts TC_X5_linkAt TN_X5 TM_X8_49 hd_X5_linkAt ⟨Nat.le_of_ble_eq_true rfl, Nat.le_of_ble_eq_true rfl⟩) TI_X5_linkAt TS_X5_linkAt (ct_shelf G _ _) rfl rfl rfl (Nat.le_of_ble_eq_true rfl) dX8_spreadOn_13 ⟨Nat.le_of_ble_eq_true rfl, Nat.le_of_ble_eq_true rfl⟩) hS (fun v_3 H locs w_4 hR hS => ?_)
        rcases w_4 with ⟨rfl, f_5⟩ | ⟨rfl, f_6, f_7, f_8, f_9⟩
        · skip
          refine lv_astoreN (lv' := [(4, .null), (0, .ref (G.2.1 12)), (1, .int fr), (2, .int hr), (3, .int (nI n))]) hC.x hC.b dX8_spreadOn_16 hl (by decide) rfl (fun ls hl => ?_)
          refine lv_aloadN hC.x hC.b dX8_spreadOn_18 (lv_at hl 0 rfl) ?_
          refine lv_ifnonnullN hC.x hC.b dX8_spreadOn_20 ?_
          refine lv_goto (tgt := 110) hC.x hC.b dX8_spreadOn_23 (by decide) ?_
          refine lv_iinc (v := nI (n + 1)) (lv' := [(3, .int (nI (n + 1))), (4, .null), (0, .ref (G.2.1 12)), (1, .int fr), (2, .int hr)]) hC.x hC.b dX8_spreadOn_110 hl (k := 4) rfl (nI_succ _).symm (by decide) rfl (fun ls hl => ?_)
          refine lv_goto (tgt := 2) hC.x hC.b dX8_spreadOn_113 (by decide) ?_
          exact ih_2 (n + 1) s1 t1 (by omega) (by first | omega | assumption) (by first | omega | assumption) (by first | exact SPI.sk hi2_2 hi3_2 (by omega) (by omega) | exact SPI.ad hi2_2 hi3_2 (by assumption) (by omega) (by omega) (by omega) (by omega) (by intros; omega) (by intros; first | rfl | omega) (by intros; first | (rw [if_pos (by omega)]; done) | (rw [if_neg (by omega)]; done) | omega)) hi3_2 _ _ _ hR hS (lv_sub hl [2, 3, 4, 0] rfl)
        · skip
          have hq_10 : n < 24 := by omega
          refine lv_astore (lv' := [(4, .ref (G.2.1 (104 + n))), (0, .ref (G.2.1 12)), (1, .int fr), (2, .int hr), (3, .int (nI n))]) hC.x hC.b dX8_spreadOn_16 hl (by decide) rfl (fun ls hl => ?_)
          refine lv_aload hC.x hC.b dX8_spreadOn_18 (lv_at hl 0 rfl) ?_
          refine lv_ifnonnull (tgt := 26) hC.x hC.b dX8_spreadOn_20 (by decide) ?_
          refine lv_aload hC.x hC.b dX8_spreadOn_26 (lv_at hl 0 rfl) ?_
          refine lv_iload_n hC.x hC.b dX8_spreadOn_28 rfl (lv_at hl 2 rfl) ?_
          refine goip (runV (As := [.int fr]) (rest := []) hC hK hR hl.1 (c_X4_otherEndFrom l hG s1 t1 n hq_10 fr ) (call_b hC.ts TC_X4_otherEndFrom TN_X4 TM_X8_55 hd_X4_otherEndFrom ⟨Nat.le_of_ble_eq_true rfl, Nat.le_of_ble_eq_true rfl⟩) TI_X4_otherEndFrom TS_X4_otherEndFrom (ct_link hq_10 G _ _) rfl rfl rfl (Nat.le_of_ble_eq_true rfl) dX8_spreadOn_29 ⟨Nat.le_of_ble_eq_true rfl, Nat.le_of_ble_eq_true rfl⟩) hS (fun v_11 H locs w_12 hR hS => ?_)
          subst w_12
          refine lv_istore (lv' := [(5, .int (otherC s1 n fr)), (4, .ref (G.2.1 (104 + n))), (0, .ref (G.2.1 12)), (1, .int fr), (2, .int hr), (3, .int (nI n))]) hC.x hC.b dX8_spreadOn_32 hl (by decide) rfl (fun ls hl => ?_)
          refine lv_aload hC.x hC.b dX8_spreadOn_34 (lv_at hl 1 rfl) ?_
          refine lv_iload_n hC.x hC.b dX8_spreadOn_36 rfl (lv_at hl 4 rfl) ?_
          refine goip (runV (As := [.int hr]) (rest := []) hC hK hR hl.1 (c_X4_toldAt l hG s1 t1 n hq_10 hr ) (call_b hC.ts TC_X4_toldAt TN_X4 TM_X8_61 hd_X4_toldAt ⟨Nat.le_of_ble_eq_true rfl, Nat.le_of_ble_eq_true rfl⟩) TI_X4_toldAt TS_X4_toldAt (ct_link hq_10 G _ _) rfl rfl rfl (Nat.le_of_ble_eq_true rfl) dX8_spreadOn_37 ⟨Nat.le_of_ble_eq_true rfl, Nat.le_of_ble_eq_true rfl⟩) hS (fun v_13 H locs w_14 hR hS => ?_)
          subst w_14
          refine lv_istore (lv' := [(6, .int (toldC s1 n hr)), (5, .int (otherC s1 n fr)), (4, .ref (G.2.1 (104 + n))), (0, .ref (G.2.1 12)), (1, .int fr), (2, .int hr), (3, .int (nI n))]) hC.x hC.b dX8_spreadOn_40 hl (by decide) rfl (fun ls hl => ?_)
          refine lv_iload hC.x hC.b dX8_spreadOn_42 (lv_at hl 1 rfl) ?_
          refine lv_iconst (v := (-1)) hC.x hC.b dX8_spreadOn_44 (by decide) ?_
          refine bi_eq (tgt := 110) (a := (otherC s1 n fr).toInt) (b := (-1)) hC.x hC.b rfl rfl dX8_spreadOn_45 (by decide) (fun c_15 => ?_) (fun c_15 => ?_)
          · skip
            refine lv_iinc (v := nI (n + 1)) (lv' := [(3, .int (nI (n + 1))), (6, .int (toldC s1 n hr)), (5, .int (otherC s1 n fr)), (4, .ref (G.2.1 (104 + n))), (0, .ref (G.2.1 12)), (1, .int fr), (2, .int hr)]) hC.x hC.b dX8_spreadOn_110 hl (k := 6) rfl (nI_succ _).symm (by decide) rfl (fun ls hl => ?_)
            refine lv_goto (tgt := 2) hC.x hC.b dX8_spreadOn_113 (by decide) ?_
            exact ih_2 (n + 1) s1 t1 (by omega) (by first | omega | assumption) (by first | omega | assumption) (by first | exact SPI.sk hi2_2 hi3_2 (by omega) (by omega) | exact SPI.ad hi2_2 hi3_2 (by assumption) (by omega) (by omega) (by omega) (by omega) (by intros; omega) (by intros; first | rfl | omega) (by intros; first | (rw [if_pos (by omega)]; done) | (rw [if_neg (by omega)]; done) | omega)) hi3_2 _ _ _ hR hS (lv_sub hl [4, 5, 6, 0] rfl)
          · skip
            refine lv_iload hC.x hC.b dX8_spreadOn_48 (lv_at hl 0 rfl) ?_
            refine lv_ldc hC.x hC.b hC.ow (hC.ts _ TK_X8_64) dX8_spreadOn_50 ?_
            refine bi_eq (tgt := 110) (a := (toldC s1 n hr).toInt) (b := 1000000) hC.x hC.b rfl rfl dX8_spreadOn_52 (by decide) (fun c_16 => ?_) (fun c_16 => ?_)
            · skip
              refine lv_iinc (v := nI (n + 1)) (lv' := [(3, .int (nI (n + 1))), (6, .int (toldC s1 n hr)), (5, .int (otherC s1 n fr)), (4, .ref (G.2.1 (104 + n))), (0, .ref (G.2.1 12)), (1, .int fr), (2, .int hr)]) hC.x hC.b dX8_spreadOn_110 hl (k := 6) rfl (nI_succ _).symm (by decide) rfl (fun ls hl => ?_)
              refine lv_goto (tgt := 2) hC.x hC.b dX8_spreadOn_113 (by decide) ?_
              exact ih_2 (n + 1) s1 t1 (by omega) (by first | omega | assumption) (by first | omega | assumption) (by first | exact SPI.sk hi2_2 hi3_2 (by omega) (by omega) | exact SPI.ad hi2_2 hi3_2 (by assumption) (by omega) (by omega) (by omega) (by omega) (by intros; omega) (by intros; first | rfl | omega) (by intros; first | (rw [if_pos (by omega)]; done) | (rw [if_neg (by omega)]; done) | omega)) hi3_2 _ _ _ hR hS (lv_sub hl [4, 5, 6, 0] rfl)
            · skip
              refine lv_aload_n hC.x hC.b dX8_spreadOn_55 rfl (lv_at hl 3 rfl) ?_
              refine lv_iload hC.x hC.b dX8_spreadOn_56 (lv_at hl 1 rfl) ?_
              refine goip (runV (As := [.int (otherC s1 n fr)]) (rest := []) hC hK hR hl.1 (c_X8_lengthTo l hG s1 t1 (otherC s1 n fr) (((otherC s1 n fr).toInt).toNat) (by first | rfl | (rw [show (otherC s1 n fr).toInt = (otherC s1 n fr).toInt from rfl]; done) | (rw [show (otherC s1 n fr).toInt = (otherC s1 n fr).toInt from rfl]; exact rfl)) ) (call_b hC.ts TC_X8_lengthTo TN_X8 TM_X8_65 hd_X8_lengthTo ⟨Nat.le_of_ble_eq_true rfl, Nat.le_of_ble_eq_true rfl⟩) TI_X8_lengthTo TS_X8_lengthTo (ct_ways G _ _) rfl rfl rfl (Nat.le_of_ble_eq_true rfl) dX8_spreadOn_58 ⟨Nat.le_of_ble_eq_true rfl, Nat.le_of_ble_eq_true rfl⟩) hS (fun v_17 H locs w_18 hR hS => ?_)
              rcases w_18 with ⟨rfl, f_19, f_20⟩ | ⟨rfl, f_21⟩
              · skip
                refine lv_iconst (v := (-1)) hC.x hC.b dX8_spreadOn_61 (by decide) ?_
                refine bi_eq (tgt := 68) (a := (s1 14 (((otherC s1 n fr).toInt).toNat)).toInt) (b := (-1)) hC.x hC.b rfl rfl dX8_spreadOn_62 (by decide) (fun c_22 => ?_) (fun c_22 => ?_)
                · skip
                  refine lv_aload hC.x hC.b dX8_spreadOn_68 (lv_at hl 2 rfl) ?_
                  refine rget hC hK hR (ct_link hq_10 G _ _) rfl uin_X4 1 (by decide) TF_X8_68 rfl dX8_spreadOn_70 ?_
                  have rd_23 : (s1 (104 + n) 1).toInt = (σ (104 + n) 1).toInt := congrArg Int32.toInt (show s1 (104 + n) 1 = σ (104 + n) 1 from congrFun (hi3_2 (104 + n) (by first | omega | (dsimp only; omega))) 1)
                  refine lv_iload_n hC.x hC.b dX8_spreadOn_73 rfl (lv_at hl 4 rfl) ?_
                  refine bi_ne (tgt := 82) (a := (s1 (104 + n) 1).toInt) (b := fr.toInt) hC.x hC.b rfl rfl dX8_spreadOn_74 (by decide) (fun c_24 => ?_) (fun c_24 => ?_)
                  · skip
                    refine lv_iload hC.x hC.b dX8_spreadOn_82 (lv_at hl 0 rfl) ?_
                    refine lv_ineg hC.x hC.b dX8_spreadOn_84 ?_
                    refine lv_istore (lv' := [(7, .int (-(toldC s1 n hr))), (6, .int (toldC s1 n hr)), (5, .int (otherC s1 n fr)), (4, .ref (G.2.1 (104 + n))), (0, .ref (G.2.1 12)), (1, .int fr), (2, .int hr), (3, .int (nI n))]) hC.x hC.b dX8_spreadOn_85 hl (by decide) rfl (fun ls hl => ?_)
                    refine lv_aload_n hC.x hC.b dX8_spreadOn_87 rfl (lv_at hl 4 rfl) ?_
                    refine lv_iload hC.x hC.b dX8_spreadOn_88 (lv_at hl 2 rfl) ?_
                    refine lv_aload_n hC.x hC.b dX8_spreadOn_90 rfl (lv_at hl 4 rfl) ?_
                    refine lv_iload_n hC.x hC.b dX8_spreadOn_91 rfl (lv_at hl 5 rfl) ?_
                    refine goip (runV (As := [.int fr]) (rest := [.int (otherC s1 n fr), .ref (G.2.1 12)]) hC hK hR hl.1 (c_X8_lengthTo l hG s1 t1 fr fr.toInt.toNat rfl ) (call_b hC.ts TC_X8_lengthTo TN_X8 TM_X8_65 hd_X8_lengthTo ⟨Nat.le_of_ble_eq_true rfl, Nat.le_of_ble_eq_true rfl⟩) TI_X8_lengthTo TS_X8_lengthTo (ct_ways G _ _) rfl rfl rfl (Nat.le_of_ble_eq_true rfl) dX8_spreadOn_92 ⟨Nat.le_of_ble_eq_true rfl, Nat.le_of_ble_eq_true rfl⟩) hS (fun v_25 H locs w_26 hR hS => ?_)
                    rcases w_26 with ⟨rfl, f_27, f_28⟩ | ⟨rfl, f_29⟩
                    · skip
                      refine lv_iconst (v := 1) hC.x hC.b dX8_spreadOn_95 (by decide) ?_
                      refine lv_iadd hC.x hC.b dX8_spreadOn_96 ?_
                      refine lv_aload_n hC.x hC.b dX8_spreadOn_97 rfl (lv_at hl 4 rfl) ?_
                      refine lv_iload_n hC.x hC.b dX8_spreadOn_98 rfl (lv_at hl 5 rfl) ?_
                      refine goip (runV (As := [.int fr]) (rest := [.int ((s1 14 fr.toInt.toNat) + (1 : Int32)), .int (otherC s1 n fr), .ref (G.2.1 12)]) hC hK hR hl.1 (c3_X8_sumTo l hG s1 t1 fr fr.toInt.toNat rfl ) (call_b hC.ts TC_X8_sumTo TN_X8 TM_X8_71 hd_X8_sumTo ⟨Nat.le_of_ble_eq_true rfl, Nat.le_of_ble_eq_true rfl⟩) TI_X8_sumTo TS_X8_sumTo (ct_ways G _ _) rfl rfl rfl (Nat.le_of_ble_eq_true rfl) dX8_spreadOn_99 ⟨Nat.le_of_ble_eq_true rfl, Nat.le_of_ble_eq_true rfl⟩) hS (fun v_30 H locs w_31 hR hS => ?_)
                      rcases w_31 with ⟨rfl, f_32, f_33⟩ | ⟨rfl, f_34⟩
                      · skip
                        refine lv_iload hC.x hC.b dX8_spreadOn_102 (lv_at hl 0 rfl) ?_
                        refine lv_iadd hC.x hC.b dX8_spreadOn_104 ?_
                        refine lv_iload_n hC.x hC.b dX8_spreadOn_105 rfl (lv_at hl 7 rfl) ?_
                        refine lv_iload_n hC.x hC.b dX8_spreadOn_106 rfl (lv_at hl 5 rfl) ?_
                        have av_35 : (nI n).toInt = (n : Int) := (nI_T n (by omega))
                        refine gov (runV (As := [.int (otherC s1 n fr), .int ((s1 14 fr.toInt.toNat) + (1 : Int32)), .int ((s1 15 fr.toInt.toNat) + (-(toldC s1 n hr))), .int (nI n), .int fr]) (rest := []) hC hK hR hl.1 (c3_X8_reach l hG s1 t1 (otherC s1 n fr) ((s1 14 fr.toInt.toNat) + (1 : Int32)) ((s1 15 fr.toInt.toNat) + (-(toldC s1 n hr))) (nI n) fr (by first | omega | assumption)) (call_b hC.ts TC_X8_reach TN_X8 TM_X8_41 hd_X8_reach ⟨Nat.le_of_ble_eq_true rfl, Nat.le_of_ble_eq_true rfl⟩) TI_X8_reach TS_X8_reach (ct_ways G _ _) rfl rfl rfl (Nat.le_of_ble_eq_true rfl) dX8_spreadOn_107 ⟨Nat.le_of_ble_eq_true rfl, Nat.le_of_ble_eq_true rfl⟩) hS (fun s_38 t_39 H locs w_37 hR hS => ?_)
                        try dsimp only [po3_X8_reach] at w_37
                        obtain ⟨f_40, f_41, f_42⟩ := w_37
                        refine lv_iinc (v := nI (n + 1)) (lv' := [(3, .int (nI (n + 1))), (7, .int (-(toldC s1 n hr))), (6, .int (toldC s1 n hr)), (5, .int (otherC s1 n fr)), (4, .ref (G.2.1 (104 + n))), (0, .ref (G.2.1 12)), (1, .int fr), (2, .int hr)]) hC.x hC.b dX8_spreadOn_110 hl (k := 7) rfl (nI_succ _).symm (by decide) rfl (fun ls hl => ?_)
                        refine lv_goto (tgt := 2) hC.x hC.b dX8_spreadOn_113 (by decide) ?_
                        exact ih_2 (n + 1) s_38 t_39 (by omega) (by first | omega | assumption) (by first | omega | assumption) (by first | exact SPI.sk hi2_2 hi3_2 (by omega) (by omega) | exact SPI.ad hi2_2 hi3_2 (by assumption) (by omega) (by omega) (by omega) (by omega) (by intros; omega) (by intros; first | rfl | omega) (by intros; first | (rw [if_pos (by omega)]; done) | (rw [if_neg (by omega)]; done) | omega)) (Fr.tr hi3_2 f_40) _ _ _ hR hS (lv_sub hl [5, 6, 7, 0] rfl)
                      · skip
                        refine lv_iload hC.x hC.b dX8_spreadOn_102 (lv_at hl 0 rfl) ?_
                        refine lv_iadd hC.x hC.b dX8_spreadOn_104 ?_
                        refine lv_iload_n hC.x hC.b dX8_spreadOn_105 rfl (lv_at hl 7 rfl) ?_
                        refine lv_iload_n hC.x hC.b dX8_spreadOn_106 rfl (lv_at hl 5 rfl) ?_
                        have av_43 : (nI n).toInt = (n : Int) := (nI_T n (by omega))
                        refine gov (runV (As := [.int (otherC s1 n fr), .int ((s1 14 fr.toInt.toNat) + (1 : Int32)), .int ((0 : Int32) + (-(toldC s1 n hr))), .int (nI n), .int fr]) (rest := []) hC hK hR hl.1 (c3_X8_reach l hG s1 t1 (otherC s1 n fr) ((s1 14 fr.toInt.toNat) + (1 : Int32)) ((0 : Int32) + (-(toldC s1 n hr))) (nI n) fr (by first | omega | assumption)) (call_b hC.ts TC_X8_reach TN_X8 TM_X8_41 hd_X8_reach ⟨Nat.le_of_ble_eq_true rfl, Nat.le_of_ble_eq_true rfl⟩) TI_X8_reach TS_X8_reach (ct_ways G _ _) rfl rfl rfl (Nat.le_of_ble_eq_true rfl) dX8_spreadOn_107 ⟨Nat.le_of_ble_eq_true rfl, Nat.le_of_ble_eq_true rfl⟩) hS (fun s_46 t_47 H locs w_45 hR hS => ?_)
                        try dsimp only [po3_X8_reach] at w_45
                        obtain ⟨f_48, f_49, f_50⟩ := w_45
                        refine lv_iinc (v := nI (n + 1)) (lv' := [(3, .int (nI (n + 1))), (7, .int (-(toldC s1 n hr))), (6, .int (toldC s1 n hr)), (5, .int (otherC s1 n fr)), (4, .ref (G.2.1 (104 + n))), (0, .ref (G.2.1 12)), (1, .int fr), (2, .int hr)]) hC.x hC.b dX8_spreadOn_110 hl (k := 7) rfl (nI_succ _).symm (by decide) rfl (fun ls hl => ?_)
                        refine lv_goto (tgt := 2) hC.x hC.b dX8_spreadOn_113 (by decide) ?_
                        exact ih_2 (n + 1) s_46 t_47 (by omega) (by first | omega | assumption) (by first | omega | assumption) (by first | exact SPI.sk hi2_2 hi3_2 (by omega) (by omega) | exact SPI.ad hi2_2 hi3_2 (by assumption) (by omega) (by omega) (by omega) (by omega) (by intros; omega) (by intros; first | rfl | omega) (by intros; first | (rw [if_pos (by omega)]; done) | (rw [if_neg (by omega)]; done) | omega)) (Fr.tr hi3_2 f_48) _ _ _ hR hS (lv_sub hl [5, 6, 7, 0] rfl)
                    · skip
                      refine lv_iconst (v := 1) hC.x hC.b dX8_spreadOn_95 (by decide) ?_
                      refine lv_iadd hC.x hC.b dX8_spreadOn_96 ?_
                      refine lv_aload_n hC.x hC.b dX8_spreadOn_97 rfl (lv_at hl 4 rfl) ?_
                      refine lv_iload_n hC.x hC.b dX8_spreadOn_98 rfl (lv_at hl 5 rfl) ?_
                      refine goip (runV (As := [.int fr]) (rest := [.int ((-1 : Int32) + (1 : Int32)), .int (otherC s1 n fr), .ref (G.2.1 12)]) hC hK hR hl.1 (c3_X8_sumTo l hG s1 t1 fr fr.toInt.toNat rfl ) (call_b hC.ts TC_X8_sumTo TN_X8 TM_X8_71 hd_X8_sumTo ⟨Nat.le_of_ble_eq_true rfl, Nat.le_of_ble_eq_true rfl⟩) TI_X8_sumTo TS_X8_sumTo (ct_ways G _ _) rfl rfl rfl (Nat.le_of_ble_eq_true rfl) dX8_spreadOn_99 ⟨Nat.le_of_ble_eq_true rfl, Nat.le_of_ble_eq_true rfl⟩) hS (fun v_51 H locs w_52 hR hS => ?_)
                      rcases w_52 with ⟨rfl, f_53, f_54⟩ | ⟨rfl, f_55⟩
                      · skip
                        refine lv_iload hC.x hC.b dX8_spreadOn_102 (lv_at hl 0 rfl) ?_
                        refine lv_iadd hC.x hC.b dX8_spreadOn_104 ?_
                        refine lv_iload_n hC.x hC.b dX8_spreadOn_105 rfl (lv_at hl 7 rfl) ?_
                        refine lv_iload_n hC.x hC.b dX8_spreadOn_106 rfl (lv_at hl 5 rfl) ?_
                        have av_56 : (nI n).toInt = (n : Int) := (nI_T n (by omega))
                        refine gov (runV (As := [.int (otherC s1 n fr), .int ((-1 : Int32) + (1 : Int32)), .int ((s1 15 fr.toInt.toNat) + (-(toldC s1 n hr))), .int (nI n), .int fr]) (rest := []) hC hK hR hl.1 (c3_X8_reach l hG s1 t1 (otherC s1 n fr) ((-1 : Int32) + (1 : Int32)) ((s1 15 fr.toInt.toNat) + (-(toldC s1 n hr))) (nI n) fr (by first | omega | assumption)) (call_b hC.ts TC_X8_reach TN_X8 TM_X8_41 hd_X8_reach ⟨Nat.le_of_ble_eq_true rfl, Nat.le_of_ble_eq_true rfl⟩) TI_X8_reach TS_X8_reach (ct_ways G _ _) rfl rfl rfl (Nat.le_of_ble_eq_true rfl) dX8_spreadOn_107 ⟨Nat.le_of_ble_eq_true rfl, Nat.le_of_ble_eq_true rfl⟩) hS (fun s_59 t_60 H locs w_58 hR hS => ?_)
                        try dsimp only [po3_X8_reach] at w_58
                        obtain ⟨f_61, f_62, f_63⟩ := w_58
                        refine lv_iinc (v := nI (n + 1)) (lv' := [(3, .int (nI (n + 1))), (7, .int (-(toldC s1 n hr))), (6, .int (toldC s1 n hr)), (5, .int (otherC s1 n fr)), (4, .ref (G.2.1 (104 + n))), (0, .ref (G.2.1 12)), (1, .int fr), (2, .int hr)]) hC.x hC.b dX8_spreadOn_110 hl (k := 7) rfl (nI_succ _).symm (by decide) rfl (fun ls hl => ?_)
                        refine lv_goto (tgt := 2) hC.x hC.b dX8_spreadOn_113 (by decide) ?_
                        exact ih_2 (n + 1) s_59 t_60 (by omega) (by first | omega | assumption) (by first | omega | assumption) (by first | exact SPI.sk hi2_2 hi3_2 (by omega) (by omega) | exact SPI.ad hi2_2 hi3_2 (by assumption) (by omega) (by omega) (by omega) (by omega) (by intros; omega) (by intros; first | rfl | omega) (by intros; first | (rw [if_pos (by omega)]; done) | (rw [if_neg (by omega)]; done) | omega)) (Fr.tr hi3_2 f_61) _ _ _ hR hS (lv_sub hl [5, 6, 7, 0] rfl)
                      · skip
                        refine lv_iload hC.x hC.b dX8_spreadOn_102 (lv_at hl 0 rfl) ?_
                        refine lv_iadd hC.x hC.b dX8_spreadOn_104 ?_
                        refine lv_iload_n hC.x hC.b dX8_spreadOn_105 rfl (lv_at hl 7 rfl) ?_
                        refine lv_iload_n hC.x hC.b dX8_spreadOn_106 rfl (lv_at hl 5 rfl) ?_
                        have av_64 : (nI n).toInt = (n : Int) := (nI_T n (by omega))
                        refine gov (runV (As := [.int (otherC s1 n fr), .int ((-1 : Int32) + (1 : Int32)), .int ((0 : Int32) + (-(toldC s1 n hr))), .int (nI n), .int fr]) (rest := []) hC hK hR hl.1 (c3_X8_reach l hG s1 t1 (otherC s1 n fr) ((-1 : Int32) + (1 : Int32)) ((0 : Int32) + (-(toldC s1 n hr))) (nI n) fr (by first | omega | assumption)) (call_b hC.ts TC_X8_reach TN_X8 TM_X8_41 hd_X8_reach ⟨Nat.le_of_ble_eq_true rfl, Nat.le_of_ble_eq_true rfl⟩) TI_X8_reach TS_X8_reach (ct_ways G _ _) rfl rfl rfl (Nat.le_of_ble_eq_true rfl) dX8_spreadOn_107 ⟨Nat.le_of_ble_eq_true rfl, Nat.le_of_ble_eq_true rfl⟩) hS (fun s_67 t_68 H locs w_66 hR hS => ?_)
                        try dsimp only [po3_X8_reach] at w_66
                        obtain ⟨f_69, f_70, f_71⟩ := w_66
                        refine lv_iinc (v := nI (n + 1)) (lv' := [(3, .int (nI (n + 1))), (7, .int (-(toldC s1 n hr))), (6, .int (toldC s1 n hr)), (5, .int (otherC s1 n fr)), (4, .ref (G.2.1 (104 + n))), (0, .ref (G.2.1 12)), (1, .int fr), (2, .int hr)]) hC.x hC.b dX8_spreadOn_110 hl (k := 7) rfl (nI_succ _).symm (by decide) rfl (fun ls hl => ?_)
                        refine lv_goto (tgt := 2) hC.x hC.b dX8_spreadOn_113 (by decide) ?_
                        exact ih_2 (n + 1) s_67 t_68 (by omega) (by first | omega | assumption) (by first | omega | assumption) (by first | exact SPI.sk hi2_2 hi3_2 (by omega) (by omega) | exact SPI.ad hi2_2 hi3_2 (by assumption) (by omega) (by omega) (by omega) (by omega) (by intros; omega) (by intros; first | rfl | omega) (by intros; first | (rw [if_pos (by omega)]; done) | (rw [if_neg (by omega)]; done) | omega)) (Fr.tr hi3_2 f_69) _ _ _ hR hS (lv_sub hl [5, 6, 7, 0] rfl)
                  · skip
                    refine lv_iload hC.x hC.b dX8_spreadOn_77 (lv_at hl 0 rfl) ?_
                    refine lv_goto (tgt := 85) hC.x hC.b dX8_spreadOn_79 (by decide) ?_
                    refine lv_istore (lv' := [(7, .int (toldC s1 n hr)), (6, .int (toldC s1 n hr)), (5, .int (otherC s1 n fr)), (4, .ref (G.2.1 (104 + n))), (0, .ref (G.2.1 12)), (1, .int fr), (2, .int hr), (3, .int (nI n))]) hC.x hC.b dX8_spreadOn_85 hl (by decide) rfl (fun ls hl => ?_)
                    refine lv_aload_n hC.x hC.b dX8_spreadOn_87 rfl (lv_at hl 4 rfl) ?_
                    refine lv_iload hC.x hC.b dX8_spreadOn_88 (lv_at hl 2 rfl) ?_
                    refine lv_aload_n hC.x hC.b dX8_spreadOn_90 rfl (lv_at hl 4 rfl) ?_
                    refine lv_iload_n hC.x hC.b dX8_spreadOn_91 rfl (lv_at hl 5 rfl) ?_
                    refine goip (runV (As := [.int fr]) (rest := [.int (otherC s1 n fr), .ref (G.2.1 12)]) hC hK hR hl.1 (c_X8_lengthTo l hG s1 t1 fr fr.toInt.toNat rfl ) (call_b hC.ts TC_X8_lengthTo TN_X8 TM_X8_65 hd_X8_lengthTo ⟨Nat.le_of_ble_eq_true rfl, Nat.le_of_ble_eq_true rfl⟩) TI_X8_lengthTo TS_X8_lengthTo (ct_ways G _ _) rfl rfl rfl (Nat.le_of_ble_eq_true rfl) dX8_spreadOn_92 ⟨Nat.le_of_ble_eq_true rfl, Nat.le_of_ble_eq_true rfl⟩) hS (fun v_72 H locs w_73 hR hS => ?_)
                    rcases w_73 with ⟨rfl, f_74, f_75⟩ | ⟨rfl, f_76⟩
                    · skip
                      refine lv_iconst (v := 1) hC.x hC.b dX8_spreadOn_95 (by decide) ?_
                      refine lv_iadd hC.x hC.b dX8_spreadOn_96 ?_
                      refine lv_aload_n hC.x hC.b dX8_spreadOn_97 rfl (lv_at hl 4 rfl) ?_
                      refine lv_iload_n hC.x hC.b dX8_spreadOn_98 rfl (lv_at hl 5 rfl) ?_
                      refine goip (runV (As := [.int fr]) (rest := [.int ((s1 14 fr.toInt.toNat) + (1 : Int32)), .int (otherC s1 n fr), .ref (G.2.1 12)]) hC hK hR hl.1 (c3_X8_sumTo l hG s1 t1 fr fr.toInt.toNat rfl ) (call_b hC.ts TC_X8_sumTo TN_X8 TM_X8_71 hd_X8_sumTo ⟨Nat.le_of_ble_eq_true rfl, Nat.le_of_ble_eq_true rfl⟩) TI_X8_sumTo TS_X8_sumTo (ct_ways G _ _) rfl rfl rfl (Nat.le_of_ble_eq_true rfl) dX8_spreadOn_99 ⟨Nat.le_of_ble_eq_true rfl, Nat.le_of_ble_eq_true rfl⟩) hS (fun v_77 H locs w_78 hR hS => ?_)
                      rcases w_78 with ⟨rfl, f_79, f_80⟩ | ⟨rfl, f_81⟩
                      · skip
                        refine lv_iload hC.x hC.b dX8_spreadOn_102 (lv_at hl 0 rfl) ?_
                        refine lv_iadd hC.x hC.b dX8_spreadOn_104 ?_
                        refine lv_iload_n hC.x hC.b dX8_spreadOn_105 rfl (lv_at hl 7 rfl) ?_
                        refine lv_iload_n hC.x hC.b dX8_spreadOn_106 rfl (lv_at hl 5 rfl) ?_
                        have av_82 : (nI n).toInt = (n : Int) := (nI_T n (by omega))
                        refine gov (runV (As := [.int (otherC s1 n fr), .int ((s1 14 fr.toInt.toNat) + (1 : Int32)), .int ((s1 15 fr.toInt.toNat) + (toldC s1 n hr)), .int (nI n), .int fr]) (rest := []) hC hK hR hl.1 (c3_X8_reach l hG s1 t1 (otherC s1 n fr) ((s1 14 fr.toInt.toNat) + (1 : Int32)) ((s1 15 fr.toInt.toNat) + (toldC s1 n hr)) (nI n) fr (by first | omega | assumption)) (call_b hC.ts TC_X8_reach TN_X8 TM_X8_41 hd_X8_reach ⟨Nat.le_of_ble_eq_true rfl, Nat.le_of_ble_eq_true rfl⟩) TI_X8_reach TS_X8_reach (ct_ways G _ _) rfl rfl rfl (Nat.le_of_ble_eq_true rfl) dX8_spreadOn_107 ⟨Nat.le_of_ble_eq_true rfl, Nat.le_of_ble_eq_true rfl⟩) hS (fun s_85 t_86 H locs w_84 hR hS => ?_)
                        try dsimp only [po3_X8_reach] at w_84
                        obtain ⟨f_87, f_88, f_89⟩ := w_84
                        refine lv_iinc (v := nI (n + 1)) (lv' := [(3, .int (nI (n + 1))), (7, .int (toldC s1 n hr)), (6, .int (toldC s1 n hr)), (5, .int (otherC s1 n fr)), (4, .ref (G.2.1 (104 + n))), (0, .ref (G.2.1 12)), (1, .int fr), (2, .int hr)]) hC.x hC.b dX8_spreadOn_110 hl (k := 7) rfl (nI_succ _).symm (by decide) rfl (fun ls hl => ?_)
                        refine lv_goto (tgt := 2) hC.x hC.b dX8_spreadOn_113 (by decide) ?_
                        exact ih_2 (n + 1) s_85 t_86 (by omega) (by first | omega | assumption) (by first | omega | assumption) (by first | exact SPI.sk hi2_2 hi3_2 (by omega) (by omega) | exact SPI.ad hi2_2 hi3_2 (by assumption) (by omega) (by omega) (by omega) (by omega) (by intros; omega) (by intros; first | rfl | omega) (by intros; first | (rw [if_pos (by omega)]; done) | (rw [if_neg (by omega)]; done) | omega)) (Fr.tr hi3_2 f_87) _ _ _ hR hS (lv_sub hl [5, 6, 7, 0] rfl)
                      · skip
                        refine lv_iload hC.x hC.b dX8_spreadOn_102 (lv_at hl 0 rfl) ?_
                        refine lv_iadd hC.x hC.b dX8_spreadOn_104 ?_
                        refine lv_iload_n hC.x hC.b dX8_spreadOn_105 rfl (lv_at hl 7 rfl) ?_
                        refine lv_iload_n hC.x hC.b dX8_spreadOn_106 rfl (lv_at hl 5 rfl) ?_
                        have av_90 : (nI n).toInt = (n : Int) := (nI_T n (by omega))
                        refine gov (runV (As := [.int (otherC s1 n fr), .int ((s1 14 fr.toInt.toNat) + (1 : Int32)), .int ((0 : Int32) + (toldC s1 n hr)), .int (nI n), .int fr]) (rest := []) hC hK hR hl.1 (c3_X8_reach l hG s1 t1 (otherC s1 n fr) ((s1 14 fr.toInt.toNat) + (1 : Int32)) ((0 : Int32) + (toldC s1 n hr)) (nI n) fr (by first | omega | assumption)) (call_b hC.ts TC_X8_reach TN_X8 TM_X8_41 hd_X8_reach ⟨Nat.le_of_ble_eq_true rfl, Nat.le_of_ble_eq_true rfl⟩) TI_X8_reach TS_X8_reach (ct_ways G _ _) rfl rfl rfl (Nat.le_of_ble_eq_true rfl) dX8_spreadOn_107 ⟨Nat.le_of_ble_eq_true rfl, Nat.le_of_ble_eq_true rfl⟩) hS (fun s_93 t_94 H locs w_92 hR hS => ?_)
                        try dsimp only [po3_X8_reach] at w_92
                        obtain ⟨f_95, f_96, f_97⟩ := w_92
                        refine lv_iinc (v := nI (n + 1)) (lv' := [(3, .int (nI (n + 1))), (7, .int (toldC s1 n hr)), (6, .int (toldC s1 n hr)), (5, .int (otherC s1 n fr)), (4, .ref (G.2.1 (104 + n))), (0, .ref (G.2.1 12)), (1, .int fr), (2, .int hr)]) hC.x hC.b dX8_spreadOn_110 hl (k := 7) rfl (nI_succ _).symm (by decide) rfl (fun ls hl => ?_)
                        refine lv_goto (tgt := 2) hC.x hC.b dX8_spreadOn_113 (by decide) ?_
                        exact ih_2 (n + 1) s_93 t_94 (by omega) (by first | omega | assumption) (by first | omega | assumption) (by first | exact SPI.sk hi2_2 hi3_2 (by omega) (by omega) | exact SPI.ad hi2_2 hi3_2 (by assumption) (by omega) (by omega) (by omega) (by omega) (by intros; omega) (by intros; first | rfl | omega) (by intros; first | (rw [if_pos (by omega)]; done) | (rw [if_neg (by omega)]; done) | omega)) (Fr.tr hi3_2 f_95) _ _ _ hR hS (lv_sub hl [5, 6, 7, 0] rfl)
                    · skip
                      refine lv_iconst (v := 1) hC.x hC.b dX8_spreadOn_95 (by decide) ?_
                      refine lv_iadd hC.x hC.b dX8_spreadOn_96 ?_
                      refine lv_aload_n hC.x hC.b dX8_spreadOn_97 rfl (lv_at hl 4 rfl) ?_
                      refine lv_iload_n hC.x hC.b dX8_spreadOn_98 rfl (lv_at hl 5 rfl) ?_
                      refine goip (runV (As := [.int fr]) (rest := [.int ((-1 : Int32) + (1 : Int32)), .int (otherC s1 n fr), .ref (G.2.1 12)]) hC hK hR hl.1 (c3_X8_sumTo l hG s1 t1 fr fr.toInt.toNat rfl ) (call_b hC.ts TC_X8_sumTo TN_X8 TM_X8_71 hd_X8_sumTo ⟨Nat.le_of_ble_eq_true rfl, Nat.le_of_ble_eq_true rfl⟩) TI_X8_sumTo TS_X8_sumTo (ct_ways G _ _) rfl rfl rfl (Nat.le_of_ble_eq_true rfl) dX8_spreadOn_99 ⟨Nat.le_of_ble_eq_true rfl, Nat.le_of_ble_eq_true rfl⟩) hS (fun v_98 H locs w_99 hR hS => ?_)
                      rcases w_99 with ⟨rfl, f_100, f_101⟩ | ⟨rfl, f_102⟩
                      · skip
                        refine lv_iload hC.x hC.b dX8_spreadOn_102 (lv_at hl 0 rfl) ?_
                        refine lv_iadd hC.x hC.b dX8_spreadOn_104 ?_
                        refine lv_iload_n hC.x hC.b dX8_spreadOn_105 rfl (lv_at hl 7 rfl) ?_
                        refine lv_iload_n hC.x hC.b dX8_spreadOn_106 rfl (lv_at hl 5 rfl) ?_
                        have av_103 : (nI n).toInt = (n : Int) := (nI_T n (by omega))
                        refine gov (runV (As := [.int (otherC s1 n fr), .int ((-1 : Int32) + (1 : Int32)), .int ((s1 15 fr.toInt.toNat) + (toldC s1 n hr)), .int (nI n), .int fr]) (rest := []) hC hK hR hl.1 (c3_X8_reach l hG s1 t1 (otherC s1 n fr) ((-1 : Int32) + (1 : Int32)) ((s1 15 fr.toInt.toNat) + (toldC s1 n hr)) (nI n) fr (by first | omega | assumption)) (call_b hC.ts TC_X8_reach TN_X8 TM_X8_41 hd_X8_reach ⟨Nat.le_of_ble_eq_true rfl, Nat.le_of_ble_eq_true rfl⟩) TI_X8_reach TS_X8_reach (ct_ways G _ _) rfl rfl rfl (Nat.le_of_ble_eq_true rfl) dX8_spreadOn_107 ⟨Nat.le_of_ble_eq_true rfl, Nat.le_of_ble_eq_true rfl⟩) hS (fun s_106 t_107 H locs w_105 hR hS => ?_)
                        try dsimp only [po3_X8_reach] at w_105
                        obtain ⟨f_108, f_109, f_110⟩ := w_105
                        refine lv_iinc (v := nI (n + 1)) (lv' := [(3, .int (nI (n + 1))), (7, .int (toldC s1 n hr)), (6, .int (toldC s1 n hr)), (5, .int (otherC s1 n fr)), (4, .ref (G.2.1 (104 + n))), (0, .ref (G.2.1 12)), (1, .int fr), (2, .int hr)]) hC.x hC.b dX8_spreadOn_110 hl (k := 7) rfl (nI_succ _).symm (by decide) rfl (fun ls hl => ?_)
                        refine lv_goto (tgt := 2) hC.x hC.b dX8_spreadOn_113 (by decide) ?_
                        exact ih_2 (n + 1) s_106 t_107 (by omega) (by first | omega | assumption) (by first | omega | assumption) (by first | exact SPI.sk hi2_2 hi3_2 (by omega) (by omega) | exact SPI.ad hi2_2 hi3_2 (by assumption) (by omega) (by omega) (by omega) (by omega) (by intros; omega) (by intros; first | rfl | omega) (by intros; first | (rw [if_pos (by omega)]; done) | (rw [if_neg (by omega)]; done) | omega)) (Fr.tr hi3_2 f_108) _ _ _ hR hS (lv_sub hl [5, 6, 7, 0] rfl)
                      · skip
                        refine lv_iload hC.x hC.b dX8_spreadOn_102 (lv_at hl 0 rfl) ?_
                        refine lv_iadd hC.x hC.b dX8_spreadOn_104 ?_
                        refine lv_iload_n hC.x hC.b dX8_spreadOn_105 rfl (lv_at hl 7 rfl) ?_
                        refine lv_iload_n hC.x hC.b dX8_spreadOn_106 rfl (lv_at hl 5 rfl) ?_
                        have av_111 : (nI n).toInt = (n : Int) := (nI_T n (by omega))
                        refine gov (runV (As := [.int (otherC s1 n fr), .int ((-1 : Int32) + (1 : Int32)), .int ((0 : Int32) + (toldC s1 n hr)), .int (nI n), .int fr]) (rest := []) hC hK hR hl.1 (c3_X8_reach l hG s1 t1 (otherC s1 n fr) ((-1 : Int32) + (1 : Int32)) ((0 : Int32) + (toldC s1 n hr)) (nI n) fr (by first | omega | assumption)) (call_b hC.ts TC_X8_reach TN_X8 TM_X8_41 hd_X8_reach ⟨Nat.le_of_ble_eq_true rfl, Nat.le_of_ble_eq_true rfl⟩) TI_X8_reach TS_X8_reach (ct_ways G _ _) rfl rfl rfl (Nat.le_of_ble_eq_true rfl) dX8_spreadOn_107 ⟨Nat.le_of_ble_eq_true rfl, Nat.le_of_ble_eq_true rfl⟩) hS (fun s_114 t_115 H locs w_113 hR hS => ?_)
                        try dsimp only [po3_X8_reach] at w_113
                        obtain ⟨f_116, f_117, f_118⟩ := w_113
                        refine lv_iinc (v := nI (n + 1)) (lv' := [(3, .int (nI (n + 1))), (7, .int (toldC s1 n hr)), (6, .int (toldC s1 n hr)), (5, .int (otherC s1 n fr)), (4, .ref (G.2.1 (104 + n))), (0, .ref (G.2.1 12)), (1, .int fr), (2, .int hr)]) hC.x hC.b dX8_spreadOn_110 hl (k := 7) rfl (nI_succ _).symm (by decide) rfl (fun ls hl => ?_)
                        refine lv_goto (tgt := 2) hC.x hC.b dX8_spreadOn_113 (by decide) ?_
                        exact ih_2 (n + 1) s_114 t_115 (by omega) (by first | omega | assumption) (by first | omega | assumption) (by first | exact SPI.sk hi2_2 hi3_2 (by omega) (by omega) | exact SPI.ad hi2_2 hi3_2 (by assumption) (by omega) (by omega) (by omega) (by omega) (by intros; omega) (by intros; first | rfl | omega) (by intros; first | (rw [if_pos (by omega)]; done) | (rw [if_neg (by omega)]; done) | omega)) (Fr.tr hi3_2 f_116) _ _ _ hR hS (lv_sub hl [5, 6, 7, 0] rfl)
                · skip
                  refine lv_goto (tgt := 110) hC.x hC.b dX8_spreadOn_65 (by decide) ?_
                  refine lv_iinc (v := nI (n + 1)) (lv' := [(3, .int (nI (n + 1))), (6, .int (toldC s1 n hr)), (5, .int (otherC s1 n fr)), (4, .ref (G.2.1 (104 + n))), (0, .ref (G.2.1 12)), (1, .int fr), (2, .int hr)]) hC.x hC.b dX8_spreadOn_110 hl (k := 6) rfl (nI_succ _).symm (by decide) rfl (fun ls hl => ?_)
                  refine lv_goto (tgt := 2) hC.x hC.b dX8_spreadOn_113 (by decide) ?_
                  exact ih_2 (n + 1) s1 t1 (by omega) (by first | omega | assumption) (by first | omega | assumption) (by first | exact SPI.sk hi2_2 hi3_2 (by omega) (by omega) | exact SPI.ad hi2_2 hi3_2 (by assumption) (by omega) (by omega) (by omega) (by omega) (by intros; omega) (by intros; first | rfl | omega) (by intros; first | (rw [if_pos (by omega)]; done) | (rw [if_neg (by omega)]; done) | omega)) hi3_2 _ _ _ hR hS (lv_sub hl [4, 5, 6, 0] rfl)
              · skip
                refine lv_iconst (v := (-1)) hC.x hC.b dX8_spreadOn_61 (by decide) ?_
                refine bi_eq (tgt := 68) (a := (-1)) (b := (-1)) hC.x hC.b rfl rfl dX8_spreadOn_62 (by decide) (fun _ => ?_) (fun c_119 => absurd c_119 (by decide))
                refine lv_aload hC.x hC.b dX8_spreadOn_68 (lv_at hl 2 rfl) ?_
                refine rget hC hK hR (ct_link hq_10 G _ _) rfl uin_X4 1 (by decide) TF_X8_68 rfl dX8_spreadOn_70 ?_
                have rd_120 : (s1 (104 + n) 1).toInt = (σ (104 + n) 1).toInt := congrArg Int32.toInt (show s1 (104 + n) 1 = σ (104 + n) 1 from congrFun (hi3_2 (104 + n) (by first | omega | (dsimp only; omega))) 1)
                refine lv_iload_n hC.x hC.b dX8_spreadOn_73 rfl (lv_at hl 4 rfl) ?_
                refine bi_ne (tgt := 82) (a := (s1 (104 + n) 1).toInt) (b := fr.toInt) hC.x hC.b rfl rfl dX8_spreadOn_74 (by decide) (fun c_121 => ?_) (fun c_121 => ?_)
                · skip
                  refine lv_iload hC.x hC.b dX8_spreadOn_82 (lv_at hl 0 rfl) ?_
                  refine lv_ineg hC.x hC.b dX8_spreadOn_84 ?_
                  refine lv_istore (lv' := [(7, .int (-(toldC s1 n hr))), (6, .int (toldC s1 n hr)), (5, .int (otherC s1 n fr)), (4, .ref (G.2.1 (104 + n))), (0, .ref (G.2.1 12)), (1, .int fr), (2, .int hr), (3, .int (nI n))]) hC.x hC.b dX8_spreadOn_85 hl (by decide) rfl (fun ls hl => ?_)
                  refine lv_aload_n hC.x hC.b dX8_spreadOn_87 rfl (lv_at hl 4 rfl) ?_
                  refine lv_iload hC.x hC.b dX8_spreadOn_88 (lv_at hl 2 rfl) ?_
                  refine lv_aload_n hC.x hC.b dX8_spreadOn_90 rfl (lv_at hl 4 rfl) ?_
                  refine lv_iload_n hC.x hC.b dX8_spreadOn_91 rfl (lv_at hl 5 rfl) ?_
                  refine goip (runV (As := [.int fr]) (rest := [.int (otherC s1 n fr), .ref (G.2.1 12)]) hC hK hR hl.1 (c_X8_lengthTo l hG s1 t1 fr fr.toInt.toNat rfl ) (call_b hC.ts TC_X8_lengthTo TN_X8 TM_X8_65 hd_X8_lengthTo ⟨Nat.le_of_ble_eq_true rfl, Nat.le_of_ble_eq_true rfl⟩) TI_X8_lengthTo TS_X8_lengthTo (ct_ways G _ _) rfl rfl rfl (Nat.le_of_ble_eq_true rfl) dX8_spreadOn_92 ⟨Nat.le_of_ble_eq_true rfl, Nat.le_of_ble_eq_true rfl⟩) hS (fun v_122 H locs w_123 hR hS => ?_)
                  rcases w_123 with ⟨rfl, f_124, f_125⟩ | ⟨rfl, f_126⟩
                  · skip
                    refine lv_iconst (v := 1) hC.x hC.b dX8_spreadOn_95 (by decide) ?_
                    refine lv_iadd hC.x hC.b dX8_spreadOn_96 ?_
                    refine lv_aload_n hC.x hC.b dX8_spreadOn_97 rfl (lv_at hl 4 rfl) ?_
                    refine lv_iload_n hC.x hC.b dX8_spreadOn_98 rfl (lv_at hl 5 rfl) ?_
                    refine goip (runV (As := [.int fr]) (rest := [.int ((s1 14 fr.toInt.toNat) + (1 : Int32)), .int (otherC s1 n fr), .ref (G.2.1 12)]) hC hK hR hl.1 (c3_X8_sumTo l hG s1 t1 fr fr.toInt.toNat rfl ) (call_b hC.ts TC_X8_sumTo TN_X8 TM_X8_71 hd_X8_sumTo ⟨Nat.le_of_ble_eq_true rfl, Nat.le_of_ble_eq_true rfl⟩) TI_X8_sumTo TS_X8_sumTo (ct_ways G _ _) rfl rfl rfl (Nat.le_of_ble_eq_true rfl) dX8_spreadOn_99 ⟨Nat.le_of_ble_eq_true rfl, Nat.le_of_ble_eq_true rfl⟩) hS (fun v_127 H locs w_128 hR hS => ?_)
                    rcases w_128 with ⟨rfl, f_129, f_130⟩ | ⟨rfl, f_131⟩
                    · skip
                      refine lv_iload hC.x hC.b dX8_spreadOn_102 (lv_at hl 0 rfl) ?_
                      refine lv_iadd hC.x hC.b dX8_spreadOn_104 ?_
                      refine lv_iload_n hC.x hC.b dX8_spreadOn_105 rfl (lv_at hl 7 rfl) ?_
                      refine lv_iload_n hC.x hC.b dX8_spreadOn_106 rfl (lv_at hl 5 rfl) ?_
                      have av_132 : (nI n).toInt = (n : Int) := (nI_T n (by omega))
                      refine gov (runV (As := [.int (otherC s1 n fr), .int ((s1 14 fr.toInt.toNat) + (1 : Int32)), .int ((s1 15 fr.toInt.toNat) + (-(toldC s1 n hr))), .int (nI n), .int fr]) (rest := []) hC hK hR hl.1 (c3_X8_reach l hG s1 t1 (otherC s1 n fr) ((s1 14 fr.toInt.toNat) + (1 : Int32)) ((s1 15 fr.toInt.toNat) + (-(toldC s1 n hr))) (nI n) fr (by first | omega | assumption)) (call_b hC.ts TC_X8_reach TN_X8 TM_X8_41 hd_X8_reach ⟨Nat.le_of_ble_eq_true rfl, Nat.le_of_ble_eq_true rfl⟩) TI_X8_reach TS_X8_reach (ct_ways G _ _) rfl rfl rfl (Nat.le_of_ble_eq_true rfl) dX8_spreadOn_107 ⟨Nat.le_of_ble_eq_true rfl, Nat.le_of_ble_eq_true rfl⟩) hS (fun s_135 t_136 H locs w_134 hR hS => ?_)
                      try dsimp only [po3_X8_reach] at w_134
                      obtain ⟨f_137, f_138, f_139⟩ := w_134
                      refine lv_iinc (v := nI (n + 1)) (lv' := [(3, .int (nI (n + 1))), (7, .int (-(toldC s1 n hr))), (6, .int (toldC s1 n hr)), (5, .int (otherC s1 n fr)), (4, .ref (G.2.1 (104 + n))), (0, .ref (G.2.1 12)), (1, .int fr), (2, .int hr)]) hC.x hC.b dX8_spreadOn_110 hl (k := 7) rfl (nI_succ _).symm (by decide) rfl (fun ls hl => ?_)
                      refine lv_goto (tgt := 2) hC.x hC.b dX8_spreadOn_113 (by decide) ?_
                      exact ih_2 (n + 1) s_135 t_136 (by omega) (by first | omega | assumption) (by first | omega | assumption) (by first | exact SPI.sk hi2_2 hi3_2 (by omega) (by omega) | exact SPI.ad hi2_2 hi3_2 (by assumption) (by omega) (by omega) (by omega) (by omega) (by intros; omega) (by intros; first | rfl | omega) (by intros; first | (rw [if_pos (by omega)]; done) | (rw [if_neg (by omega)]; done) | omega)) (Fr.tr hi3_2 f_137) _ _ _ hR hS (lv_sub hl [5, 6, 7, 0] rfl)
                    · skip
                      refine lv_iload hC.x hC.b dX8_spreadOn_102 (lv_at hl 0 rfl) ?_
                      refine lv_iadd hC.x hC.b dX8_spreadOn_104 ?_
                      refine lv_iload_n hC.x hC.b dX8_spreadOn_105 rfl (lv_at hl 7 rfl) ?_
                      refine lv_iload_n hC.x hC.b dX8_spreadOn_106 rfl (lv_at hl 5 rfl) ?_
                      have av_140 : (nI n).toInt = (n : Int) := (nI_T n (by omega))
                      refine gov (runV (As := [.int (otherC s1 n fr), .int ((s1 14 fr.toInt.toNat) + (1 : Int32)), .int ((0 : Int32) + (-(toldC s1 n hr))), .int (nI n), .int fr]) (rest := []) hC hK hR hl.1 (c3_X8_reach l hG s1 t1 (otherC s1 n fr) ((s1 14 fr.toInt.toNat) + (1 : Int32)) ((0 : Int32) + (-(toldC s1 n hr))) (nI n) fr (by first | omega | assumption)) (call_b hC.ts TC_X8_reach TN_X8 TM_X8_41 hd_X8_reach ⟨Nat.le_of_ble_eq_true rfl, Nat.le_of_ble_eq_true rfl⟩) TI_X8_reach TS_X8_reach (ct_ways G _ _) rfl rfl rfl (Nat.le_of_ble_eq_true rfl) dX8_spreadOn_107 ⟨Nat.le_of_ble_eq_true rfl, Nat.le_of_ble_eq_true rfl⟩) hS (fun s_143 t_144 H locs w_142 hR hS => ?_)
                      try dsimp only [po3_X8_reach] at w_142
                      obtain ⟨f_145, f_146, f_147⟩ := w_142
                      refine lv_iinc (v := nI (n + 1)) (lv' := [(3, .int (nI (n + 1))), (7, .int (-(toldC s1 n hr))), (6, .int (toldC s1 n hr)), (5, .int (otherC s1 n fr)), (4, .ref (G.2.1 (104 + n))), (0, .ref (G.2.1 12)), (1, .int fr), (2, .int hr)]) hC.x hC.b dX8_spreadOn_110 hl (k := 7) rfl (nI_succ _).symm (by decide) rfl (fun ls hl => ?_)
                      refine lv_goto (tgt := 2) hC.x hC.b dX8_spreadOn_113 (by decide) ?_
                      exact ih_2 (n + 1) s_143 t_144 (by omega) (by first | omega | assumption) (by first | omega | assumption) (by first | exact SPI.sk hi2_2 hi3_2 (by omega) (by omega) | exact SPI.ad hi2_2 hi3_2 (by assumption) (by omega) (by omega) (by omega) (by omega) (by intros; omega) (by intros; first | rfl | omega) (by intros; first | (rw [if_pos (by omega)]; done) | (rw [if_neg (by omega)]; done) | omega)) (Fr.tr hi3_2 f_145) _ _ _ hR hS (lv_sub hl [5, 6, 7, 0] rfl)
                  · skip
                    refine lv_iconst (v := 1) hC.x hC.b dX8_spreadOn_95 (by decide) ?_
                    refine lv_iadd hC.x hC.b dX8_spreadOn_96 ?_
                    refine lv_aload_n hC.x hC.b dX8_spreadOn_97 rfl (lv_at hl 4 rfl) ?_
                    refine lv_iload_n hC.x hC.b dX8_spreadOn_98 rfl (lv_at hl 5 rfl) ?_
                    refine goip (runV (As := [.int fr]) (rest := [.int ((-1 : Int32) + (1 : Int32)), .int (otherC s1 n fr), .ref (G.2.1 12)]) hC hK hR hl.1 (c3_X8_sumTo l hG s1 t1 fr fr.toInt.toNat rfl ) (call_b hC.ts TC_X8_sumTo TN_X8 TM_X8_71 hd_X8_sumTo ⟨Nat.le_of_ble_eq_true rfl, Nat.le_of_ble_eq_true rfl⟩) TI_X8_sumTo TS_X8_sumTo (ct_ways G _ _) rfl rfl rfl (Nat.le_of_ble_eq_true rfl) dX8_spreadOn_99 ⟨Nat.le_of_ble_eq_true rfl, Nat.le_of_ble_eq_true rfl⟩) hS (fun v_148 H locs w_149 hR hS => ?_)
                    rcases w_149 with ⟨rfl, f_150, f_151⟩ | ⟨rfl, f_152⟩
                    · skip
                      refine lv_iload hC.x hC.b dX8_spreadOn_102 (lv_at hl 0 rfl) ?_
                      refine lv_iadd hC.x hC.b dX8_spreadOn_104 ?_
                      refine lv_iload_n hC.x hC.b dX8_spreadOn_105 rfl (lv_at hl 7 rfl) ?_
                      refine lv_iload_n hC.x hC.b dX8_spreadOn_106 rfl (lv_at hl 5 rfl) ?_
                      have av_153 : (nI n).toInt = (n : Int) := (nI_T n (by omega))
                      refine gov (runV (As := [.int (otherC s1 n fr), .int ((-1 : Int32) + (1 : Int32)), .int ((s1 15 fr.toInt.toNat) + (-(toldC s1 n hr))), .int (nI n), .int fr]) (rest := []) hC hK hR hl.1 (c3_X8_reach l hG s1 t1 (otherC s1 n fr) ((-1 : Int32) + (1 : Int32)) ((s1 15 fr.toInt.toNat) + (-(toldC s1 n hr))) (nI n) fr (by first | omega | assumption)) (call_b hC.ts TC_X8_reach TN_X8 TM_X8_41 hd_X8_reach ⟨Nat.le_of_ble_eq_true rfl, Nat.le_of_ble_eq_true rfl⟩) TI_X8_reach TS_X8_reach (ct_ways G _ _) rfl rfl rfl (Nat.le_of_ble_eq_true rfl) dX8_spreadOn_107 ⟨Nat.le_of_ble_eq_true rfl, Nat.le_of_ble_eq_true rfl⟩) hS (fun s_156 t_157 H locs w_155 hR hS => ?_)
                      try dsimp only [po3_X8_reach] at w_155
                      obtain ⟨f_158, f_159, f_160⟩ := w_155
                      refine lv_iinc (v := nI (n + 1)) (lv' := [(3, .int (nI (n + 1))), (7, .int (-(toldC s1 n hr))), (6, .int (toldC s1 n hr)), (5, .int (otherC s1 n fr)), (4, .ref (G.2.1 (104 + n))), (0, .ref (G.2.1 12)), (1, .int fr), (2, .int hr)]) hC.x hC.b dX8_spreadOn_110 hl (k := 7) rfl (nI_succ _).symm (by decide) rfl (fun ls hl => ?_)
                      refine lv_goto (tgt := 2) hC.x hC.b dX8_spreadOn_113 (by decide) ?_
                      exact ih_2 (n + 1) s_156 t_157 (by omega) (by first | omega | assumption) (by first | omega | assumption) (by first | exact SPI.sk hi2_2 hi3_2 (by omega) (by omega) | exact SPI.ad hi2_2 hi3_2 (by assumption) (by omega) (by omega) (by omega) (by omega) (by intros; omega) (by intros; first | rfl | omega) (by intros; first | (rw [if_pos (by omega)]; done) | (rw [if_neg (by omega)]; done) | omega)) (Fr.tr hi3_2 f_158) _ _ _ hR hS (lv_sub hl [5, 6, 7, 0] rfl)
                    · skip
                      refine lv_iload hC.x hC.b dX8_spreadOn_102 (lv_at hl 0 rfl) ?_
                      refine lv_iadd hC.x hC.b dX8_spreadOn_104 ?_
                      refine lv_iload_n hC.x hC.b dX8_spreadOn_105 rfl (lv_at hl 7 rfl) ?_
                      refine lv_iload_n hC.x hC.b dX8_spreadOn_106 rfl (lv_at hl 5 rfl) ?_
                      have av_161 : (nI n).toInt = (n : Int) := (nI_T n (by omega))
                      refine gov (runV (As := [.int (otherC s1 n fr), .int ((-1 : Int32) + (1 : Int32)), .int ((0 : Int32) + (-(toldC s1 n hr))), .int (nI n), .int fr]) (rest := []) hC hK hR hl.1 (c3_X8_reach l hG s1 t1 (otherC s1 n fr) ((-1 : Int32) + (1 : Int32)) ((0 : Int32) + (-(toldC s1 n hr))) (nI n) fr (by first | omega | assumption)) (call_b hC.ts TC_X8_reach TN_X8 TM_X8_41 hd_X8_reach ⟨Nat.le_of_ble_eq_true rfl, Nat.le_of_ble_eq_true rfl⟩) TI_X8_reach TS_X8_reach (ct_ways G _ _) rfl rfl rfl (Nat.le_of_ble_eq_true rfl) dX8_spreadOn_107 ⟨Nat.le_of_ble_eq_true rfl, Nat.le_of_ble_eq_true rfl⟩) hS (fun s_164 t_165 H locs w_163 hR hS => ?_)
                      try dsimp only [po3_X8_reach] at w_163
                      obtain ⟨f_166, f_167, f_168⟩ := w_163
                      refine lv_iinc (v := nI (n + 1)) (lv' := [(3, .int (nI (n + 1))), (7, .int (-(toldC s1 n hr))), (6, .int (toldC s1 n hr)), (5, .int (otherC s1 n fr)), (4, .ref (G.2.1 (104 + n))), (0, .ref (G.2.1 12)), (1, .int fr), (2, .int hr)]) hC.x hC.b dX8_spreadOn_110 hl (k := 7) rfl (nI_succ _).symm (by decide) rfl (fun ls hl => ?_)
                      refine lv_goto (tgt := 2) hC.x hC.b dX8_spreadOn_113 (by decide) ?_
                      exact ih_2 (n + 1) s_164 t_165 (by omega) (by first | omega | assumption) (by first | omega | assumption) (by first | exact SPI.sk hi2_2 hi3_2 (by omega) (by omega) | exact SPI.ad hi2_2 hi3_2 (by assumption) (by omega) (by omega) (by omega) (by omega) (by intros; omega) (by intros; first | rfl | omega) (by intros; first | (rw [if_pos (by omega)]; done) | (rw [if_neg (by omega)]; done) | omega)) (Fr.tr hi3_2 f_166) _ _ _ hR hS (lv_sub hl [5, 6, 7, 0] rfl)
                · skip
                  refine lv_iload hC.x hC.b dX8_spreadOn_77 (lv_at hl 0 rfl) ?_
                  refine lv_goto (tgt := 85) hC.x hC.b dX8_spreadOn_79 (by decide) ?_
                  refine lv_istore (lv' := [(7, .int (toldC s1 n hr)), (6, .int (toldC s1 n hr)), (5, .int (otherC s1 n fr)), (4, .ref (G.2.1 (104 + n))), (0, .ref (G.2.1 12)), (1, .int fr), (2, .int hr), (3, .int (nI n))]) hC.x hC.b dX8_spreadOn_85 hl (by decide) rfl (fun ls hl => ?_)
                  refine lv_aload_n hC.x hC.b dX8_spreadOn_87 rfl (lv_at hl 4 rfl) ?_
                  refine lv_iload hC.x hC.b dX8_spreadOn_88 (lv_at hl 2 rfl) ?_
                  refine lv_aload_n hC.x hC.b dX8_spreadOn_90 rfl (lv_at hl 4 rfl) ?_
                  refine lv_iload_n hC.x hC.b dX8_spreadOn_91 rfl (lv_at hl 5 rfl) ?_
                  refine goip (runV (As := [.int fr]) (rest := [.int (otherC s1 n fr), .ref (G.2.1 12)]) hC hK hR hl.1 (c_X8_lengthTo l hG s1 t1 fr fr.toInt.toNat rfl ) (call_b hC.ts TC_X8_lengthTo TN_X8 TM_X8_65 hd_X8_lengthTo ⟨Nat.le_of_ble_eq_true rfl, Nat.le_of_ble_eq_true rfl⟩) TI_X8_lengthTo TS_X8_lengthTo (ct_ways G _ _) rfl rfl rfl (Nat.le_of_ble_eq_true rfl) dX8_spreadOn_92 ⟨Nat.le_of_ble_eq_true rfl, Nat.le_of_ble_eq_true rfl⟩) hS (fun v_169 H locs w_170 hR hS => ?_)
                  rcases w_170 with ⟨rfl, f_171, f_172⟩ | ⟨rfl, f_173⟩
                  · skip
                    refine lv_iconst (v := 1) hC.x hC.b dX8_spreadOn_95 (by decide) ?_
                    refine lv_iadd hC.x hC.b dX8_spreadOn_96 ?_
                    refine lv_aload_n hC.x hC.b dX8_spreadOn_97 rfl (lv_at hl 4 rfl) ?_
                    refine lv_iload_n hC.x hC.b dX8_spreadOn_98 rfl (lv_at hl 5 rfl) ?_
                    refine goip (runV (As := [.int fr]) (rest := [.int ((s1 14 fr.toInt.toNat) + (1 : Int32)), .int (otherC s1 n fr), .ref (G.2.1 12)]) hC hK hR hl.1 (c3_X8_sumTo l hG s1 t1 fr fr.toInt.toNat rfl ) (call_b hC.ts TC_X8_sumTo TN_X8 TM_X8_71 hd_X8_sumTo ⟨Nat.le_of_ble_eq_true rfl, Nat.le_of_ble_eq_true rfl⟩) TI_X8_sumTo TS_X8_sumTo (ct_ways G _ _) rfl rfl rfl (Nat.le_of_ble_eq_true rfl) dX8_spreadOn_99 ⟨Nat.le_of_ble_eq_true rfl, Nat.le_of_ble_eq_true rfl⟩) hS (fun v_174 H locs w_175 hR hS => ?_)
                    rcases w_175 with ⟨rfl, f_176, f_177⟩ | ⟨rfl, f_178⟩
                    · skip
                      refine lv_iload hC.x hC.b dX8_spreadOn_102 (lv_at hl 0 rfl) ?_
                      refine lv_iadd hC.x hC.b dX8_spreadOn_104 ?_
                      refine lv_iload_n hC.x hC.b dX8_spreadOn_105 rfl (lv_at hl 7 rfl) ?_
                      refine lv_iload_n hC.x hC.b dX8_spreadOn_106 rfl (lv_at hl 5 rfl) ?_
                      have av_179 : (nI n).toInt = (n : Int) := (nI_T n (by omega))
                      refine gov (runV (As := [.int (otherC s1 n fr), .int ((s1 14 fr.toInt.toNat) + (1 : Int32)), .int ((s1 15 fr.toInt.toNat) + (toldC s1 n hr)), .int (nI n), .int fr]) (rest := []) hC hK hR hl.1 (c3_X8_reach l hG s1 t1 (otherC s1 n fr) ((s1 14 fr.toInt.toNat) + (1 : Int32)) ((s1 15 fr.toInt.toNat) + (toldC s1 n hr)) (nI n) fr (by first | omega | assumption)) (call_b hC.ts TC_X8_reach TN_X8 TM_X8_41 hd_X8_reach ⟨Nat.le_of_ble_eq_true rfl, Nat.le_of_ble_eq_true rfl⟩) TI_X8_reach TS_X8_reach (ct_ways G _ _) rfl rfl rfl (Nat.le_of_ble_eq_true rfl) dX8_spreadOn_107 ⟨Nat.le_of_ble_eq_true rfl, Nat.le_of_ble_eq_true rfl⟩) hS (fun s_182 t_183 H locs w_181 hR hS => ?_)
                      try dsimp only [po3_X8_reach] at w_181
                      obtain ⟨f_184, f_185, f_186⟩ := w_181
                      refine lv_iinc (v := nI (n + 1)) (lv' := [(3, .int (nI (n + 1))), (7, .int (toldC s1 n hr)), (6, .int (toldC s1 n hr)), (5, .int (otherC s1 n fr)), (4, .ref (G.2.1 (104 + n))), (0, .ref (G.2.1 12)), (1, .int fr), (2, .int hr)]) hC.x hC.b dX8_spreadOn_110 hl (k := 7) rfl (nI_succ _).symm (by decide) rfl (fun ls hl => ?_)
                      refine lv_goto (tgt := 2) hC.x hC.b dX8_spreadOn_113 (by decide) ?_
                      exact ih_2 (n + 1) s_182 t_183 (by omega) (by first | omega | assumption) (by first | omega | assumption) (by first | exact SPI.sk hi2_2 hi3_2 (by omega) (by omega) | exact SPI.ad hi2_2 hi3_2 (by assumption) (by omega) (by omega) (by omega) (by omega) (by intros; omega) (by intros; first | rfl | omega) (by intros; first | (rw [if_pos (by omega)]; done) | (rw [if_neg (by omega)]; done) | omega)) (Fr.tr hi3_2 f_184) _ _ _ hR hS (lv_sub hl [5, 6, 7, 0] rfl)
                    · skip
                      refine lv_iload hC.x hC.b dX8_spreadOn_102 (lv_at hl 0 rfl) ?_
                      refine lv_iadd hC.x hC.b dX8_spreadOn_104 ?_
                      refine lv_iload_n hC.x hC.b dX8_spreadOn_105 rfl (lv_at hl 7 rfl) ?_
                      refine lv_iload_n hC.x hC.b dX8_spreadOn_106 rfl (lv_at hl 5 rfl) ?_
                      have av_187 : (nI n).toInt = (n : Int) := (nI_T n (by omega))
                      refine gov (runV (As := [.int (otherC s1 n fr), .int ((s1 14 fr.toInt.toNat) + (1 : Int32)), .int ((0 : Int32) + (toldC s1 n hr)), .int (nI n), .int fr]) (rest := []) hC hK hR hl.1 (c3_X8_reach l hG s1 t1 (otherC s1 n fr) ((s1 14 fr.toInt.toNat) + (1 : Int32)) ((0 : Int32) + (toldC s1 n hr)) (nI n) fr (by first | omega | assumption)) (call_b hC.ts TC_X8_reach TN_X8 TM_X8_41 hd_X8_reach ⟨Nat.le_of_ble_eq_true rfl, Nat.le_of_ble_eq_true rfl⟩) TI_X8_reach TS_X8_reach (ct_ways G _ _) rfl rfl rfl (Nat.le_of_ble_eq_true rfl) dX8_spreadOn_107 ⟨Nat.le_of_ble_eq_true rfl, Nat.le_of_ble_eq_true rfl⟩) hS (fun s_190 t_191 H locs w_189 hR hS => ?_)
                      try dsimp only [po3_X8_reach] at w_189
                      obtain ⟨f_192, f_193, f_194⟩ := w_189
                      refine lv_iinc (v := nI (n + 1)) (lv' := [(3, .int (nI (n + 1))), (7, .int (toldC s1 n hr)), (6, .int (toldC s1 n hr)), (5, .int (otherC s1 n fr)), (4, .ref (G.2.1 (104 + n))), (0, .ref (G.2.1 12)), (1, .int fr), (2, .int hr)]) hC.x hC.b dX8_spreadOn_110 hl (k := 7) rfl (nI_succ _).symm (by decide) rfl (fun ls hl => ?_)
                      refine lv_goto (tgt := 2) hC.x hC.b dX8_spreadOn_113 (by decide) ?_
                      exact ih_2 (n + 1) s_190 t_191 (by omega) (by first | omega | assumption) (by first | omega | assumption) (by first | exact SPI.sk hi2_2 hi3_2 (by omega) (by omega) | exact SPI.ad hi2_2 hi3_2 (by assumption) (by omega) (by omega) (by omega) (by omega) (by intros; omega) (by intros; first | rfl | omega) (by intros; first | (rw [if_pos (by omega)]; done) | (rw [if_neg (by omega)]; done) | omega)) (Fr.tr hi3_2 f_192) _ _ _ hR hS (lv_sub hl [5, 6, 7, 0] rfl)
                  · skip
                    refine lv_iconst (v := 1) hC.x hC.b dX8_spreadOn_95 (by decide) ?_
                    refine lv_iadd hC.x hC.b dX8_spreadOn_96 ?_
                    refine lv_aload_n hC.x hC.b dX8_spreadOn_97 rfl (lv_at hl 4 rfl) ?_
                    refine lv_iload_n hC.x hC.b dX8_spreadOn_98 rfl (lv_at hl 5 rfl) ?_
                    refine goip (runV (As := [.int fr]) (rest := [.int ((-1 : Int32) + (1 : Int32)), .int (otherC s1 n fr), .ref (G.2.1 12)]) hC hK hR hl.1 (c3_X8_sumTo l hG s1 t1 fr fr.toInt.toNat rfl ) (call_b hC.ts TC_X8_sumTo TN_X8 TM_X8_71 hd_X8_sumTo ⟨Nat.le_of_ble_eq_true rfl, Nat.le_of_ble_eq_true rfl⟩) TI_X8_sumTo TS_X8_sumTo (ct_ways G _ _) rfl rfl rfl (Nat.le_of_ble_eq_true rfl) dX8_spreadOn_99 ⟨Nat.le_of_ble_eq_true rfl, Nat.le_of_ble_eq_true rfl⟩) hS (fun v_195 H locs w_196 hR hS => ?_)
                    rcases w_196 with ⟨rfl, f_197, f_198⟩ | ⟨rfl, f_199⟩
                    · skip
                      refine lv_iload hC.x hC.b dX8_spreadOn_102 (lv_at hl 0 rfl) ?_
                      refine lv_iadd hC.x hC.b dX8_spreadOn_104 ?_
                      refine lv_iload_n hC.x hC.b dX8_spreadOn_105 rfl (lv_at hl 7 rfl) ?_
                      refine lv_iload_n hC.x hC.b dX8_spreadOn_106 rfl (lv_at hl 5 rfl) ?_
                      have av_200 : (nI n).toInt = (n : Int) := (nI_T n (by omega))
                      refine gov (runV (As := [.int (otherC s1 n fr), .int ((-1 : Int32) + (1 : Int32)), .int ((s1 15 fr.toInt.toNat) + (toldC s1 n hr)), .int (nI n), .int fr]) (rest := []) hC hK hR hl.1 (c3_X8_reach l hG s1 t1 (otherC s1 n fr) ((-1 : Int32) + (1 : Int32)) ((s1 15 fr.toInt.toNat) + (toldC s1 n hr)) (nI n) fr (by first | omega | assumption)) (call_b hC.ts TC_X8_reach TN_X8 TM_X8_41 hd_X8_reach ⟨Nat.le_of_ble_eq_true rfl, Nat.le_of_ble_eq_true rfl⟩) TI_X8_reach TS_X8_reach (ct_ways G _ _) rfl rfl rfl (Nat.le_of_ble_eq_true rfl) dX8_spreadOn_107 ⟨Nat.le_of_ble_eq_true rfl, Nat.le_of_ble_eq_true rfl⟩) hS (fun s_203 t_204 H locs w_202 hR hS => ?_)
                      try dsimp only [po3_X8_reach] at w_202
                      obtain ⟨f_205, f_206, f_207⟩ := w_202
                      refine lv_iinc (v := nI (n + 1)) (lv' := [(3, .int (nI (n + 1))), (7, .int (toldC s1 n hr)), (6, .int (toldC s1 n hr)), (5, .int (otherC s1 n fr)), (4, .ref (G.2.1 (104 + n))), (0, .ref (G.2.1 12)), (1, .int fr), (2, .int hr)]) hC.x hC.b dX8_spreadOn_110 hl (k := 7) rfl (nI_succ _).symm (by decide) rfl (fun ls hl => ?_)
                      refine lv_goto (tgt := 2) hC.x hC.b dX8_spreadOn_113 (by decide) ?_
                      exact ih_2 (n + 1) s_203 t_204 (by omega) (by first | omega | assumption) (by first | omega | assumption) (by first | exact SPI.sk hi2_2 hi3_2 (by omega) (by omega) | exact SPI.ad hi2_2 hi3_2 (by assumption) (by omega) (by omega) (by omega) (by omega) (by intros; omega) (by intros; first | rfl | omega) (by intros; first | (rw [if_pos (by omega)]; done) | (rw [if_neg (by omega)]; done) | omega)) (Fr.tr hi3_2 f_205) _ _ _ hR hS (lv_sub hl [5, 6, 7, 0] rfl)
                    · skip
                      refine lv_iload hC.x hC.b dX8_spreadOn_102 (lv_at hl 0 rfl) ?_
                      refine lv_iadd hC.x hC.b dX8_spreadOn_104 ?_
                      refine lv_iload_n hC.x hC.b dX8_spreadOn_105 rfl (lv_at hl 7 rfl) ?_
                      refine lv_iload_n hC.x hC.b dX8_spreadOn_106 rfl (lv_at hl 5 rfl) ?_
                      have av_208 : (nI n).toInt = (n : Int) := (nI_T n (by omega))
                      refine gov (runV (As := [.int (otherC s1 n fr), .int ((-1 : Int32) + (1 : Int32)), .int ((0 : Int32) + (toldC s1 n hr)), .int (nI n), .int fr]) (rest := []) hC hK hR hl.1 (c3_X8_reach l hG s1 t1 (otherC s1 n fr) ((-1 : Int32) + (1 : Int32)) ((0 : Int32) + (toldC s1 n hr)) (nI n) fr (by first | omega | assumption)) (call_b hC.ts TC_X8_reach TN_X8 TM_X8_41 hd_X8_reach ⟨Nat.le_of_ble_eq_true rfl, Nat.le_of_ble_eq_true rfl⟩) TI_X8_reach TS_X8_reach (ct_ways G _ _) rfl rfl rfl (Nat.le_of_ble_eq_true rfl) dX8_spreadOn_107 ⟨Nat.le_of_ble_eq_true rfl, Nat.le_of_ble_eq_true rfl⟩) hS (fun s_211 t_212 H locs w_210 hR hS => ?_)
                      try dsimp only [po3_X8_reach] at w_210
                      obtain ⟨f_213, f_214, f_215⟩ := w_210
                      refine lv_iinc (v := nI (n + 1)) (lv' := [(3, .int (nI (n + 1))), (7, .int (toldC s1 n hr)), (6, .int (toldC s1 n hr)), (5, .int (otherC s1 n fr)), (4, .ref (G.2.1 (104 + n))), (0, .ref (G.2.1 12)), (1, .int fr), (2, .int hr)]) hC.x hC.b dX8_spreadOn_110 hl (k := 7) rfl (nI_succ _).symm (by decide) rfl (fun ls hl => ?_)
                      refine lv_goto (tgt := 2) hC.x hC.b dX8_spreadOn_113 (by decide) ?_
                      exact ih_2 (n + 1) s_211 t_212 (by omega) (by first | omega | assumption) (by first | omega | assumption) (by first | exact SPI.sk hi2_2 hi3_2 (by omega) (by omega) | exact SPI.ad hi2_2 hi3_2 (by assumption) (by omega) (by omega) (by omega) (by omega) (by intros; omega) (by intros; first | rfl | omega) (by intros; first | (rw [if_pos (by omega)]; done) | (rw [if_neg (by omega)]; done) | omega)) (Fr.tr hi3_2 f_213) _ _ _ hR hS (lv_sub hl [5, 6, 7, 0] rfl)
  exact L_2 _ 0 σ τ (Nat.lt_succ_self _) (by first | omega | assumption) (by first | omega | assumption) (by exact SPI.st) Fr.rf _ _ _ hR hS (lv_sub hl [1, 2, 3, 0] rfl)

abbrev po3_X8_spread (σ : SI) (τ : SL) (fr : Int32) (hr : Int32) : SI × SL → Prop := fun u => ((Fr (fun k => 12 ≤ k ∧ k ≤ 17) σ u.1) ∧ (SPD σ u.1 fr hr))
set_option maxRecDepth 100000 in
set_option maxHeartbeats 4000000 in
theorem c3_X8_spread (l : Launch) {G : Gx} {A : Nat → Prop} (hG : GOk G A) (σ : SI) (τ : SL) (fr : Int32) (hr : Int32) : MV l G A 3 yX8_spread cX8_spread 4 none [.ref (G.2.1 12), .int fr, .int hr] (σ, τ) (po3_X8_spread σ τ fr hr) := by
  refine met_of (own := RX8) (by decide +kernel) rfl [(0, .ref (G.2.1 12)), (1, .int fr), (2, .int hr)] rfl (Nat.le_of_ble_eq_true rfl) ?_
  intro p e s m args below meth c ls hC hK hR hl
  have hS : va_S A s.heap s.heap [] := va_S.rf
  refine lv_aload_n hC.x hC.b dX8_spread_0 rfl (lv_at hl 0 rfl) ?_
  refine rget hC hK hR (ct_ways G _ _) rfl uin_X8 2 (by decide) TF_X8_15 rfl dX8_spread_1 ?_
  refine lv_iconst (v := (-1)) hC.x hC.b dX8_spread_4 (by decide) ?_
  have av_1 : (-1 : Int32).toInt = -1 := by decide
  refine gov (runS (As := [.ref (G.2.1 14), .int (-1 : Int32)]) (rest := []) hC hK hR hl.1 (c3_J7_fill_53178 l hG σ τ (-1 : Int32) ) (call_b hC.ts TC_J7_fill_53178 TN_J7 TM_X8_35 hd_J7_fill_53178 ⟨Nat.le_of_ble_eq_true rfl, Nat.le_of_ble_eq_true rfl⟩) TT_J7_fill_53178 rfl rfl (Nat.le_of_ble_eq_true rfl) dX8_spread_5 ⟨Nat.le_of_ble_eq_true rfl, Nat.le_of_ble_eq_true rfl⟩) hS (fun s_4 t_5 H locs w_3 hR hS => ?_)
  try dsimp only [po3_J7_fill_53178] at w_3
  obtain ⟨et_6, f_7, f_8⟩ := w_3
  rw [et_6] at hR
  refine lv_aload_n hC.x hC.b dX8_spread_8 rfl (lv_at hl 0 rfl) ?_
  refine lv_iconst (v := 0) hC.x hC.b dX8_spread_9 (by decide) ?_
  refine rputi hC hK hG hR hS (ct_ways G _ _) rfl uin_X8 tyX8 tyX8_ok nmX8 6 (by decide) TF_X8_27 rfl (Or.inl rfl) (Nat.le_of_ble_eq_true rfl) rfl (ct_ways G _ _) dX8_spread_10 (fun s_10 es_9 H locs hR hS => ?_)
  refine lv_aload_n hC.x hC.b dX8_spread_13 rfl (lv_at hl 0 rfl) ?_
  refine lv_iload_n hC.x hC.b dX8_spread_14 rfl (lv_at hl 1 rfl) ?_
  refine lv_iconst (v := 0) hC.x hC.b dX8_spread_15 (by decide) ?_
  refine lv_iconst (v := 0) hC.x hC.b dX8_spread_16 (by decide) ?_
  refine lv_iconst (v := (-1)) hC.x hC.b dX8_spread_17 (by decide) ?_
  refine lv_iconst (v := (-1)) hC.x hC.b dX8_spread_18 (by decide) ?_
  have av_11 : (0 : Int32).toInt = 0 := by decide
  have av_12 : (0 : Int32).toInt = 0 := by decide
  have av_13 : (-1 : Int32).toInt = -1 := by decide
  have av_14 : (-1 : Int32).toInt = -1 := by decide
  have rd_15 : (s_10 12 6).toInt = 0 := (congrArg Int32.toInt (show s_10 12 6 = (0 : Int32) from (by rw [es_9]; exact up2_s))).trans (by decide)
  refine gov (runV (As := [.int fr, .int (0 : Int32), .int (0 : Int32), .int (-1 : Int32), .int (-1 : Int32)]) (rest := []) hC hK hR hl.1 (c3_X8_reach l hG s_10 τ fr (0 : Int32) (0 : Int32) (-1 : Int32) (-1 : Int32) (by first | omega | assumption)) (call_b hC.ts TC_X8_reach TN_X8 TM_X8_41 hd_X8_reach ⟨Nat.le_of_ble_eq_true rfl, Nat.le_of_ble_eq_true rfl⟩) TI_X8_reach TS_X8_reach (ct_ways G _ _) rfl rfl rfl (Nat.le_of_ble_eq_true rfl) dX8_spread_19 ⟨Nat.le_of_ble_eq_true rfl, Nat.le_of_ble_eq_true rfl⟩) hS (fun s_18 t_19 H locs w_17 hR hS => ?_)
  try dsimp only [po3_X8_reach] at w_17
  obtain ⟨f_20, f_21, f_22⟩ := w_17
  refine lv_iconst (v := 0) hC.x hC.b dX8_spread_22 (by decide) ?_
  refine lv_istore_n (lv' := [(3, .int (0 : Int32)), (0, .ref (G.2.1 12)), (1, .int fr), (2, .int hr)]) hC.x hC.b dX8_spread_23 rfl hl (by decide) rfl (fun ls hl => ?_)
  have L_24 : ∀ (F : Nat) (n : Nat) (s1 : SI) (t1 : SL), (24 - n) < F → (n ≤ 24) → (0 ≤ (s1 12 6).toInt) → (SPJ σ s1 fr hr n) → (Fr (fun k => 12 ≤ k ∧ k ≤ 17) σ s1) → ∀ (H : Heap) (locs : List Loc) (ls : Array Slot), RepH G s1 t1 H → va_S A s.heap H locs → lv_has ls 4 [(0, .ref (G.2.1 12)), (1, .int fr), (2, .int hr), (3, .int (nI n))] → W p l e (rmD 3) s m args below meth c H locs 0 0 (MQ below (va_Qv (po3_X8_spread σ τ fr hr) (BU G) A) args s 0 0 A) (F0 m 24 ls []) := by
    intro F
    induction F with
    | zero => intro n s1 t1 hm; exact absurd hm (Nat.not_lt_zero _)
    | succ F ih_24 =>
      intro n s1 t1 hm_24 hi0_24 hi1_24 hi2_24 hi3_24 H locs ls hR hS hl
      refine lv_iload_n hC.x hC.b dX8_spread_24 rfl (lv_at hl 3 rfl) ?_
      refine lv_aload_n hC.x hC.b dX8_spread_25 rfl (lv_at hl 0 rfl) ?_
      refine rget hC hK hR (ct_ways G _ _) rfl uin_X8 6 (by decide) TF_X8_27 rfl dX8_spread_26 ?_
      refine bi_ge (tgt := 58) (a := (n : Int)) (b := (s1 12 6).toInt) hC.x hC.b (nI_T n (by omega)) rfl dX8_spread_29 (by decide) (fun c_23 => ?_) (fun c_23 => ?_)
      · skip
        exact retv hC hK hR hS (⟨by exact hi3_24, by (try dsimp only); exact SPJ.nd hi2_24 (by omega)⟩) dX8_spread_58
      · skip
        refine lv_iload_n hC.x hC.b dX8_spread_32 rfl (lv_at hl 3 rfl) ?_
        refine lv_aload_n hC.x hC.b dX8_spread_33 rfl (lv_at hl 0 rfl) ?_
        refine rget hC hK hR (ct_ways G _ _) rfl uin_X8 1 (by decide) TF_X8_9 rfl dX8_spread_34 ?_
        refine ralen (t := 0) hC hK hR (by decide) (ct_queue G _ _) (v := 24) rfl dX8_spread_37 ?_
        refine bi_ge (tgt := 58) (a := (n : Int)) (b := 24) hC.x hC.b (nI_T n (by omega)) rfl dX8_spread_38 (by decide) (fun c_24 => ?_) (fun c_24 => ?_)
        · skip
          exact retv hC hK hR hS (⟨by exact hi3_24, by (try dsimp only); exact SPJ.nd hi2_24 (by omega)⟩) dX8_spread_58
        · skip
          refine lv_aload_n hC.x hC.b dX8_spread_41 rfl (lv_at hl 0 rfl) ?_
          refine lv_aload_n hC.x hC.b dX8_spread_42 rfl (lv_at hl 0 rfl) ?_
          refine rget hC hK hR (ct_ways G _ _) rfl uin_X8 1 (by decide) TF_X8_9 rfl dX8_spread_43 ?_
          refine lv_iload_n hC.x hC.b dX8_spread_46 rfl (lv_at hl 3 rfl) ?_
          refine ald hC hK hR (ct_queue G _ _) (nI_T n (by omega)) (by omega) (by omega) (Int.toNat_natCast _) dX8_spread_47 ?_
          refine lv_iload_n hC.x hC.b dX8_spread_48 rfl (lv_at hl 2 rfl) ?_
          refine gov (runV (As := [.int (s1 13 n), .int hr]) (rest := []) hC hK hR hl.1 (c3_X8_spreadOn l hG s1 t1 (s1 13 n) hr (by first | omega | assumption)) (call_b hC.ts TC_X8_spreadOn TN_X8 TM_X8_45 hd_X8_spreadOn ⟨Nat.le_of_ble_eq_true rfl, Nat.le_of_ble_eq_true rfl⟩) TI_X8_spreadOn TS_X8_spreadOn (ct_ways G _ _) rfl rfl rfl (Nat.le_of_ble_eq_true rfl) dX8_spread_49 ⟨Nat.le_of_ble_eq_true rfl, Nat.le_of_ble_eq_true rfl⟩) hS (fun s_27 t_28 H locs w_26 hR hS => ?_)
          try dsimp only [po3_X8_spreadOn] at w_26
          obtain ⟨f_29, f_30, f_31⟩ := w_26
          refine lv_iinc (v := nI (n + 1)) (lv' := [(3, .int (nI (n + 1))), (0, .ref (G.2.1 12)), (1, .int fr), (2, .int hr)]) hC.x hC.b dX8_spread_52 hl (k := 3) rfl (nI_succ _).symm (by decide) rfl (fun ls hl => ?_)
          refine lv_goto (tgt := 24) hC.x hC.b dX8_spread_55 (by decide) ?_
          exact ih_24 (n + 1) s_27 t_28 (by omega) (by first | omega | assumption) (by first | omega | assumption) (by exact SPJ.go hi2_24 hi3_24 (by omega) (by assumption)) (Fr.tr hi3_24 f_29) _ _ _ hR hS (lv_sub hl [1, 2, 3, 0] rfl)
  exact L_24 _ 0 s_18 t_19 (Nat.lt_succ_self _) (by first | omega | assumption) (by first | omega | assumption) (by exact SPJ.st (by assumption) (by assumption) (by assumption)) (Fr.tr (by rw [es_9]; exact Fr.up ((Fr.tr Fr.rf f_7)) (by first | omega | (dsimp only; omega))) f_20) _ _ _ hR hS (lv_sub hl [1, 2, 3, 0] rfl)

abbrev po3_X9_refusalOfClocks (σ : SI) (τ : SL) (xa : Int32) (xq : Nat) (ya : Int32) (yq : Nat) : Int32 → SI × SL → Prop := fun v u => u = (σ, τ) ∧ (((v = (0)) ∧ (0 ≤ xa.toInt) ∧ (xa.toInt < 24) ∧ (0 ≤ (σ 2 xq).toInt) ∧ ((σ 2 xq).toInt ≤ 3) ∧ (0 ≤ ya.toInt) ∧ (ya.toInt < 24) ∧ (0 ≤ (σ 2 yq).toInt) ∧ ((σ 2 yq).toInt ≤ 3)) ∨ ((v = (-1)) ∧ (RX 2 σ xa xq ya yq (-1))) ∨ ((v = (-2)) ∧ (RX 2 σ xa xq ya yq (-2))))
set_option maxRecDepth 100000 in
set_option maxHeartbeats 4000000 in
theorem c3_X9_refusalOfClocks (l : Launch) {G : Gx} {A : Nat → Prop} (hG : GOk G A) (σ : SI) (τ : SL) (xa : Int32) (xq : Nat) (hp_xq : xa.toInt.toNat = xq) (ya : Int32) (yq : Nat) (hp_yq : ya.toInt.toNat = yq) : MI l G A 2 yX9_refusalOfClocks cX9_refusalOfClocks 3 (some .int) [.ref (G.2.1 0), .int xa, .int ya] (σ, τ) (po3_X9_refusalOfClocks σ τ xa xq ya yq) := by
  refine met_of (own := RX9) (by decide +kernel) rfl [(0, .ref (G.2.1 0)), (1, .int xa), (2, .int ya)] rfl (Nat.le_of_ble_eq_true rfl) ?_
  intro p e s m args below meth c ls hC hK hR hl
  have hS : va_S A s.heap s.heap [] := va_S.rf
  refine lv_aload_n hC.x hC.b dX9_refusalOfClocks_0 rfl (lv_at hl 0 rfl) ?_
  refine rget hC hK hR (ct_bench G _ _) rfl uin_X9 0 (by decide) TF_X9_10 rfl dX9_refusalOfClocks_1 ?_
  refine lv_iload_n hC.x hC.b dX9_refusalOfClocks_4 rfl (lv_at hl 1 rfl) ?_
  refine goqp (runV (As := [.int xa]) (rest := []) hC hK hR hl.1 (c_X5_clockAt l hG σ τ xa xq (by first | rfl | (rw [show xa.toInt = xa.toInt from rfl]; done) | (rw [show xa.toInt = xa.toInt from rfl]; exact hp_xq)) ) (call_b hC.ts TC_X5_clockAt TN_X5 TM_X9_169 hd_X5_clockAt ⟨Nat.le_of_ble_eq_true rfl, Nat.le_of_ble_eq_true rfl⟩) TI_X5_clockAt TS_X5_clockAt (ct_shelf G _ _) rfl rfl rfl (Nat.le_of_ble_eq_true rfl) dX9_refusalOfClocks_5 ⟨Nat.le_of_ble_eq_true rfl, Nat.le_of_ble_eq_true rfl⟩) hS (fun v_1 H locs w_2 hR hS => ?_)
  rcases w_2 with ⟨rfl, f_3⟩ | ⟨rfl, f_4, f_5, f_6, f_7⟩
  · skip
    refine lv_ifnonnullN hC.x hC.b dX9_refusalOfClocks_8 ?_
    refine lv_aload_n hC.x hC.b dX9_refusalOfClocks_11 rfl (lv_at hl 0 rfl) ?_
    refine lv_iload_n hC.x hC.b dX9_refusalOfClocks_12 rfl (lv_at hl 1 rfl) ?_
    refine goip (runV (As := [.int xa]) (rest := []) hC hK hR hl.1 (c_X9_refusalAt l hG σ τ xa xq (by first | rfl | (rw [show xa.toInt = xa.toInt from rfl]; done) | (rw [show xa.toInt = xa.toInt from rfl]; exact hp_xq)) ) (call_b hC.ts TC_X9_refusalAt TN_X9 TM_X9_116 hd_X9_refusalAt ⟨Nat.le_of_ble_eq_true rfl, Nat.le_of_ble_eq_true rfl⟩) TI_X9_refusalAt TS_X9_refusalAt (ct_bench G _ _) rfl rfl rfl (Nat.le_of_ble_eq_true rfl) dX9_refusalOfClocks_13 ⟨Nat.le_of_ble_eq_true rfl, Nat.le_of_ble_eq_true rfl⟩) hS (fun v_8 H locs w_9 hR hS => ?_)
    rcases w_9 with ⟨rfl, f_10⟩ | ⟨rfl, f_11, f_12, f_13⟩
    · skip
      exact reti hC hK hR hS ⟨rfl, (by first | exact Or.inr (Or.inl (⟨by first | rfl | omega, by (unfold RX fl; first | (refine Or.inl ⟨?_, ?_⟩ <;> ((repeat (first | rw [if_pos (by omega)] | rw [if_neg (by omega)])); first | done | decide)) | (refine Or.inr ⟨?_, ?_, ?_⟩ <;> ((repeat (first | rw [if_pos (by omega)] | rw [if_neg (by omega)])); first | done | decide)))⟩)) | exact False.elim (by omega))⟩ dX9_refusalOfClocks_16
    · skip
      exact reti hC hK hR hS ⟨rfl, (by first | exact Or.inr (Or.inr ((⟨by first | rfl | omega, by (unfold RX fl; first | (refine Or.inl ⟨?_, ?_⟩ <;> ((repeat (first | rw [if_pos (by omega)] | rw [if_neg (by omega)])); first | done | decide)) | (refine Or.inr ⟨?_, ?_, ?_⟩ <;> ((repeat (first | rw [if_pos (by omega)] | rw [if_neg (by omega)])); first | done | decide)))⟩))) | exact False.elim (by omega))⟩ dX9_refusalOfClocks_16
  · skip
    have hq_14 : xq < 24 := by omega
    refine lv_ifnonnull (tgt := 17) hC.x hC.b dX9_refusalOfClocks_8 (by decide) ?_
    refine lv_aload_n hC.x hC.b dX9_refusalOfClocks_17 rfl (lv_at hl 0 rfl) ?_
    refine rget hC hK hR (ct_bench G _ _) rfl uin_X9 0 (by decide) TF_X9_10 rfl dX9_refusalOfClocks_18 ?_
    refine lv_iload_n hC.x hC.b dX9_refusalOfClocks_21 rfl (lv_at hl 2 rfl) ?_
    refine goqp (runV (As := [.int ya]) (rest := []) hC hK hR hl.1 (c_X5_clockAt l hG σ τ ya yq (by first | rfl | (rw [show ya.toInt = ya.toInt from rfl]; done) | (rw [show ya.toInt = ya.toInt from rfl]; exact hp_yq)) ) (call_b hC.ts TC_X5_clockAt TN_X5 TM_X9_169 hd_X5_clockAt ⟨Nat.le_of_ble_eq_true rfl, Nat.le_of_ble_eq_true rfl⟩) TI_X5_clockAt TS_X5_clockAt (ct_shelf G _ _) rfl rfl rfl (Nat.le_of_ble_eq_true rfl) dX9_refusalOfClocks_22 ⟨Nat.le_of_ble_eq_true rfl, Nat.le_of_ble_eq_true rfl⟩) hS (fun v_15 H locs w_16 hR hS => ?_)
    rcases w_16 with ⟨rfl, f_17⟩ | ⟨rfl, f_18, f_19, f_20, f_21⟩
    · skip
      refine lv_ifnonnullN hC.x hC.b dX9_refusalOfClocks_25 ?_
      refine lv_aload_n hC.x hC.b dX9_refusalOfClocks_28 rfl (lv_at hl 0 rfl) ?_
      refine lv_iload_n hC.x hC.b dX9_refusalOfClocks_29 rfl (lv_at hl 2 rfl) ?_
      refine goip (runV (As := [.int ya]) (rest := []) hC hK hR hl.1 (c_X9_refusalAt l hG σ τ ya yq (by first | rfl | (rw [show ya.toInt = ya.toInt from rfl]; done) | (rw [show ya.toInt = ya.toInt from rfl]; exact hp_yq)) ) (call_b hC.ts TC_X9_refusalAt TN_X9 TM_X9_116 hd_X9_refusalAt ⟨Nat.le_of_ble_eq_true rfl, Nat.le_of_ble_eq_true rfl⟩) TI_X9_refusalAt TS_X9_refusalAt (ct_bench G _ _) rfl rfl rfl (Nat.le_of_ble_eq_true rfl) dX9_refusalOfClocks_30 ⟨Nat.le_of_ble_eq_true rfl, Nat.le_of_ble_eq_true rfl⟩) hS (fun v_22 H locs w_23 hR hS => ?_)
      rcases w_23 with ⟨rfl, f_24⟩ | ⟨rfl, f_25, f_26, f_27⟩
      · skip
        refine lv_goto (tgt := 37) hC.x hC.b dX9_refusalOfClocks_33 (by decide) ?_
        exact reti hC hK hR hS ⟨rfl, (by first | exact Or.inr (Or.inl (⟨by first | rfl | omega, by (unfold RX fl; first | (refine Or.inl ⟨?_, ?_⟩ <;> ((repeat (first | rw [if_pos (by omega)] | rw [if_neg (by omega)])); first | done | decide)) | (refine Or.inr ⟨?_, ?_, ?_⟩ <;> ((repeat (first | rw [if_pos (by omega)] | rw [if_neg (by omega)])); first | done | decide)))⟩)) | exact False.elim (by omega))⟩ dX9_refusalOfClocks_37
      · skip
        refine lv_goto (tgt := 37) hC.x hC.b dX9_refusalOfClocks_33 (by decide) ?_
        exact reti hC hK hR hS ⟨rfl, (by first | exact Or.inr (Or.inr ((⟨by first | rfl | omega, by (unfold RX fl; first | (refine Or.inl ⟨?_, ?_⟩ <;> ((repeat (first | rw [if_pos (by omega)] | rw [if_neg (by omega)])); first | done | decide)) | (refine Or.inr ⟨?_, ?_, ?_⟩ <;> ((repeat (first | rw [if_pos (by omega)] | rw [if_neg (by omega)])); first | done | decide)))⟩))) | exact False.elim (by omega))⟩ dX9_refusalOfClocks_37
    · skip
      have hq_28 : yq < 24 := by omega
      refine lv_ifnonnull (tgt := 36) hC.x hC.b dX9_refusalOfClocks_25 (by decide) ?_
      refine lv_iconst (v := 0) hC.x hC.b dX9_refusalOfClocks_36 (by decide) ?_
      exact reti hC hK hR hS ⟨rfl, (by first | exact Or.inl (⟨by first | rfl | omega, by first | omega | assumption, by first | omega | assumption, by first | omega | assumption, by first | omega | assumption, by first | omega | assumption, by first | omega | assumption, by first | omega | assumption, by first | omega | assumption⟩) | exact False.elim (by omega))⟩ dX9_refusalOfClocks_37

abbrev po3_X9_findWay (σ : SI) (τ : SL) (xa : Int32) (ya : Int32) (hr : Int32) : Int32 → SI × SL → Prop := fun v u => ((Fr (fun k => 12 ≤ k ∧ k ≤ 17) σ u.1) ∧ (FW σ u.1 xa ya hr v))
set_option maxRecDepth 100000 in
set_option maxHeartbeats 4000000 in
theorem c3_X9_findWay (l : Launch) {G : Gx} {A : Nat → Prop} (hG : GOk G A) (σ : SI) (τ : SL) (xa : Int32) (ya : Int32) (hr : Int32) (hxa : 0 ≤ xa.toInt ∧ xa.toInt < 24) (hya : 0 ≤ ya.toInt ∧ ya.toInt < 24) : MI l G A 4 yX9_findWay cX9_findWay 4 (some .int) [.ref (G.2.1 0), .int xa, .int ya, .int hr] (σ, τ) (po3_X9_findWay σ τ xa ya hr) := by
  refine met_of (own := RX9) (by decide +kernel) rfl [(0, .ref (G.2.1 0)), (1, .int xa), (2, .int ya), (3, .int hr)] rfl (Nat.le_of_ble_eq_true rfl) ?_
  intro p e s m args below meth c ls hC hK hR hl
  have hS : va_S A s.heap s.heap [] := va_S.rf
  refine lv_aload_n hC.x hC.b dX9_findWay_0 rfl (lv_at hl 0 rfl) ?_
  refine lv_iload_n hC.x hC.b dX9_findWay_1 rfl (lv_at hl 3 rfl) ?_
  refine goip (runV (As := [.int hr]) (rest := []) hC hK hR hl.1 (c_X9_hasCome l hG σ τ hr ) (call_b hC.ts TC_X9_hasCome TN_X9 TM_X9_142 hd_X9_hasCome ⟨Nat.le_of_ble_eq_true rfl, Nat.le_of_ble_eq_true rfl⟩) TI_X9_hasCome TS_X9_hasCome (ct_bench G _ _) rfl rfl rfl (Nat.le_of_ble_eq_true rfl) dX9_findWay_2 ⟨Nat.le_of_ble_eq_true rfl, Nat.le_of_ble_eq_true rfl⟩) hS (fun v_1 H locs w_2 hR hS => ?_)
  rcases w_2 with ⟨rfl, f_3, f_4⟩ | ⟨rfl, f_5⟩
  · skip
    refine bz_ne (tgt := 10) (a := 1) (b := 0) hC.x hC.b rfl rfl dX9_findWay_5 (by decide) (fun _ => ?_) (fun c_6 => absurd c_6 (by decide))
    refine lv_aload_n hC.x hC.b dX9_findWay_10 rfl (lv_at hl 0 rfl) ?_
    refine rget hC hK hR (ct_bench G _ _) rfl uin_X9 3 (by decide) TF_X9_35 rfl dX9_findWay_11 ?_
    refine lv_iload_n hC.x hC.b dX9_findWay_14 rfl (lv_at hl 1 rfl) ?_
    refine lv_iload_n hC.x hC.b dX9_findWay_15 rfl (lv_at hl 2 rfl) ?_
    refine goip (runS (As := [.int xa, .int ya]) (rest := [.ref (G.2.1 12)]) hC hK hR hl.1 (c_J9_min_7cf53 l hG σ τ xa ya ) (call_b hC.ts TC_J9_min_7cf53 TN_J9 TM_X9_269 hd_J9_min_7cf53 ⟨Nat.le_of_ble_eq_true rfl, Nat.le_of_ble_eq_true rfl⟩) TT_J9_min_7cf53 rfl rfl (Nat.le_of_ble_eq_true rfl) dX9_findWay_16 ⟨Nat.le_of_ble_eq_true rfl, Nat.le_of_ble_eq_true rfl⟩) hS (fun v_7 H locs w_8 hR hS => ?_)
    have f_9 := w_8
    refine lv_iload_n hC.x hC.b dX9_findWay_19 rfl (lv_at hl 3 rfl) ?_
    refine gov (runV (As := [.int v_7, .int hr]) (rest := []) hC hK hR hl.1 (c3_X8_spread l hG σ τ v_7 hr ) (call_b hC.ts TC_X8_spread TN_X8 TM_X9_272 hd_X8_spread ⟨Nat.le_of_ble_eq_true rfl, Nat.le_of_ble_eq_true rfl⟩) TI_X8_spread TS_X8_spread (ct_ways G _ _) rfl rfl rfl (Nat.le_of_ble_eq_true rfl) dX9_findWay_20 ⟨Nat.le_of_ble_eq_true rfl, Nat.le_of_ble_eq_true rfl⟩) hS (fun s_12 t_13 H locs w_11 hR hS => ?_)
    try dsimp only [po3_X8_spread] at w_11
    obtain ⟨f_14, f_15⟩ := w_11
    refine lv_aload_n hC.x hC.b dX9_findWay_23 rfl (lv_at hl 0 rfl) ?_
    refine rget hC hK hR (ct_bench G _ _) rfl uin_X9 3 (by decide) TF_X9_35 rfl dX9_findWay_24 ?_
    refine lv_iload_n hC.x hC.b dX9_findWay_27 rfl (lv_at hl 1 rfl) ?_
    refine lv_iload_n hC.x hC.b dX9_findWay_28 rfl (lv_at hl 2 rfl) ?_
    refine goip (runS (As := [.int xa, .int ya]) (rest := [.ref (G.2.1 12)]) hC hK hR hl.1 (c_J9_max_7cf53 l hG s_12 t_13 xa ya ) (call_b hC.ts TC_J9_max_7cf53 TN_J9 TM_X9_157 hd_J9_max_7cf53 ⟨Nat.le_of_ble_eq_true rfl, Nat.le_of_ble_eq_true rfl⟩) TT_J9_max_7cf53 rfl rfl (Nat.le_of_ble_eq_true rfl) dX9_findWay_29 ⟨Nat.le_of_ble_eq_true rfl, Nat.le_of_ble_eq_true rfl⟩) hS (fun v_16 H locs w_17 hR hS => ?_)
    have f_18 := w_17
    refine goip (runV (As := [.int v_16]) (rest := []) hC hK hR hl.1 (c_X8_lengthTo l hG s_12 t_13 v_16 v_16.toInt.toNat rfl ) (call_b hC.ts TC_X8_lengthTo TN_X8 TM_X9_275 hd_X8_lengthTo ⟨Nat.le_of_ble_eq_true rfl, Nat.le_of_ble_eq_true rfl⟩) TI_X8_lengthTo TS_X8_lengthTo (ct_ways G _ _) rfl rfl rfl (Nat.le_of_ble_eq_true rfl) dX9_findWay_32 ⟨Nat.le_of_ble_eq_true rfl, Nat.le_of_ble_eq_true rfl⟩) hS (fun v_19 H locs w_20 hR hS => ?_)
    rcases w_20 with ⟨rfl, f_21, f_22⟩ | ⟨rfl, f_23⟩
    · skip
      exact reti hC hK hR hS (⟨by exact (Fr.tr Fr.rf f_14), by (try dsimp only); first | exact Or.inl ⟨by omega, by first | decide | omega⟩ | exact Or.inr ⟨⟨by omega, by omega⟩, fw_mk (by assumption) (by assumption) (by assumption) hxa hya⟩ | (exfalso; omega)⟩) dX9_findWay_35
    · skip
      exact reti hC hK hR hS (⟨by exact (Fr.tr Fr.rf f_14), by (try dsimp only); first | exact Or.inl ⟨by omega, by first | decide | omega⟩ | exact Or.inr ⟨⟨by omega, by omega⟩, fw_mk (by assumption) (by assumption) (by assumption) hxa hya⟩ | (exfalso; omega)⟩) dX9_findWay_35
  · skip
    refine bz_ne (tgt := 10) (a := 0) (b := 0) hC.x hC.b rfl rfl dX9_findWay_5 (by decide) (fun c_24 => absurd c_24 (by decide)) (fun _ => ?_)
    refine lv_iconst (v := (-1)) hC.x hC.b dX9_findWay_8 (by decide) ?_
    exact reti hC hK hR hS (⟨by exact Fr.rf, by (try dsimp only); first | exact Or.inl ⟨by omega, by first | decide | omega⟩ | exact Or.inr ⟨⟨by omega, by omega⟩, fw_mk (by assumption) (by assumption) (by assumption) hxa hya⟩ | (exfalso; omega)⟩) dX9_findWay_9

abbrev po3_X9_difference (σ : SI) (τ : SL) (xa : Int32) (xq : Nat) (ya : Int32) (yq : Nat) (hr : Int32) : Int32 → SI × SL → Prop := fun v u => ((Fr (fun k => 12 ≤ k ∧ k ≤ 17) σ u.1) ∧ (DC σ u.1 xa xq ya yq hr v))
set_option maxRecDepth 100000 in
set_option maxHeartbeats 4000000 in
theorem c3_X9_difference (l : Launch) {G : Gx} {A : Nat → Prop} (hG : GOk G A) (σ : SI) (τ : SL) (xa : Int32) (xq : Nat) (hp_xq : xa.toInt.toNat = xq) (ya : Int32) (yq : Nat) (hp_yq : ya.toInt.toNat = yq) (hr : Int32) : MI l G A 5 yX9_difference cX9_difference 6 (some .int) [.ref (G.2.1 0), .int xa, .int ya, .int hr] (σ, τ) (po3_X9_difference σ τ xa xq ya yq hr) := by
  refine met_of (own := RX9) (by decide +kernel) rfl [(0, .ref (G.2.1 0)), (1, .int xa), (2, .int ya), (3, .int hr)] rfl (Nat.le_of_ble_eq_true rfl) ?_
  intro p e s m args below meth c ls hC hK hR hl
  have hS : va_S A s.heap s.heap [] := va_S.rf
  refine lv_aload_n hC.x hC.b dX9_difference_0 rfl (lv_at hl 0 rfl) ?_
  refine lv_iload_n hC.x hC.b dX9_difference_1 rfl (lv_at hl 1 rfl) ?_
  refine lv_iload_n hC.x hC.b dX9_difference_2 rfl (lv_at hl 2 rfl) ?_
  refine goip (runV (As := [.int xa, .int ya]) (rest := []) hC hK hR hl.1 (c3_X9_refusalOfClocks l hG σ τ xa xq (by first | rfl | (rw [show xa.toInt = xa.toInt from rfl]; done) | (rw [show xa.toInt = xa.toInt from rfl]; exact hp_xq)) ya yq (by first | rfl | (rw [show ya.toInt = ya.toInt from rfl]; done) | (rw [show ya.toInt = ya.toInt from rfl]; exact hp_yq)) ) (call_b hC.ts TC_X9_refusalOfClocks TN_X9 TM_X9_149 hd_X9_refusalOfClocks ⟨Nat.le_of_ble_eq_true rfl, Nat.le_of_ble_eq_true rfl⟩) TI_X9_refusalOfClocks TS_X9_refusalOfClocks (ct_bench G _ _) rfl rfl rfl (Nat.le_of_ble_eq_true rfl) dX9_difference_3 ⟨Nat.le_of_ble_eq_true rfl, Nat.le_of_ble_eq_true rfl⟩) hS (fun v_1 H locs w_2 hR hS => ?_)
  rcases w_2 with ⟨rfl, f_3, f_4, f_5, f_6, f_7, f_8, f_9, f_10⟩ | ⟨rfl, f_11⟩ | ⟨rfl, f_12⟩
  · skip
    refine lv_istore (lv' := [(4, .int (0 : Int32)), (0, .ref (G.2.1 0)), (1, .int xa), (2, .int ya), (3, .int hr)]) hC.x hC.b dX9_difference_6 hl (by decide) rfl (fun ls hl => ?_)
    refine lv_iload hC.x hC.b dX9_difference_8 (lv_at hl 0 rfl) ?_
    refine bz_eq (tgt := 16) (a := 0) (b := 0) hC.x hC.b rfl rfl dX9_difference_10 (by decide) (fun _ => ?_) (fun c_13 => absurd c_13 (by decide))
    refine lv_aload_n hC.x hC.b dX9_difference_16 rfl (lv_at hl 1 rfl) ?_
    refine lv_iload_n hC.x hC.b dX9_difference_17 rfl (lv_at hl 2 rfl) ?_
    refine lv_iload_n hC.x hC.b dX9_difference_18 rfl (lv_at hl 3 rfl) ?_
    refine lv_iload_n hC.x hC.b dX9_difference_19 rfl (lv_at hl 4 rfl) ?_
    refine goi (runV (As := [.int xa, .int ya, .int hr]) (rest := []) hC hK hR hl.1 (c3_X9_findWay l hG σ τ xa ya hr (by omega) (by omega)) (call_b hC.ts TC_X9_findWay TN_X9 TM_X9_153 hd_X9_findWay ⟨Nat.le_of_ble_eq_true rfl, Nat.le_of_ble_eq_true rfl⟩) TI_X9_findWay TS_X9_findWay (ct_bench G _ _) rfl rfl rfl (Nat.le_of_ble_eq_true rfl) dX9_difference_20 ⟨Nat.le_of_ble_eq_true rfl, Nat.le_of_ble_eq_true rfl⟩) hS (fun v_14 s_16 t_17 H locs w_15 hR hS => ?_)
    try dsimp only [po3_X9_findWay] at w_15
    obtain ⟨f_18, f_19⟩ := w_15
    refine lv_iconst (v := (-1)) hC.x hC.b dX9_difference_23 (by decide) ?_
    refine bi_ne (tgt := 30) (a := v_14.toInt) (b := (-1)) hC.x hC.b rfl rfl dX9_difference_24 (by decide) (fun c_20 => ?_) (fun c_20 => ?_)
    · skip
      refine lv_aload_n hC.x hC.b dX9_difference_30 rfl (lv_at hl 1 rfl) ?_
      refine rget hC hK hR (ct_bench G _ _) rfl uin_X9 3 (by decide) TF_X9_35 rfl dX9_difference_31 ?_
      refine lv_iload_n hC.x hC.b dX9_difference_34 rfl (lv_at hl 2 rfl) ?_
      refine lv_iload_n hC.x hC.b dX9_difference_35 rfl (lv_at hl 3 rfl) ?_
      refine goip (runS (As := [.int xa, .int ya]) (rest := [.ref (G.2.1 12)]) hC hK hR hl.1 (c_J9_max_7cf53 l hG s_16 t_17 xa ya ) (call_b hC.ts TC_J9_max_7cf53 TN_J9 TM_X9_157 hd_J9_max_7cf53 ⟨Nat.le_of_ble_eq_true rfl, Nat.le_of_ble_eq_true rfl⟩) TT_J9_max_7cf53 rfl rfl (Nat.le_of_ble_eq_true rfl) dX9_difference_36 ⟨Nat.le_of_ble_eq_true rfl, Nat.le_of_ble_eq_true rfl⟩) hS (fun v_21 H locs w_22 hR hS => ?_)
      have f_23 := w_22
      refine goip (runV (As := [.int v_21]) (rest := []) hC hK hR hl.1 (c3_X8_sumTo l hG s_16 t_17 v_21 v_21.toInt.toNat rfl ) (call_b hC.ts TC_X8_sumTo TN_X8 TM_X9_162 hd_X8_sumTo ⟨Nat.le_of_ble_eq_true rfl, Nat.le_of_ble_eq_true rfl⟩) TI_X8_sumTo TS_X8_sumTo (ct_ways G _ _) rfl rfl rfl (Nat.le_of_ble_eq_true rfl) dX9_difference_39 ⟨Nat.le_of_ble_eq_true rfl, Nat.le_of_ble_eq_true rfl⟩) hS (fun v_24 H locs w_25 hR hS => ?_)
      rcases w_25 with ⟨rfl, f_26, f_27⟩ | ⟨rfl, f_28⟩
      · skip
        refine lv_topi (fun x_29 ex_30 => ?_)
        refine lv_istore (lv' := [(5, .int x_29), (4, .int (0 : Int32)), (0, .ref (G.2.1 0)), (1, .int xa), (2, .int ya), (3, .int hr)]) hC.x hC.b dX9_difference_42 hl (by decide) rfl (fun ls hl => ?_)
        refine lv_iload_n hC.x hC.b dX9_difference_44 rfl (lv_at hl 3 rfl) ?_
        refine lv_iload_n hC.x hC.b dX9_difference_45 rfl (lv_at hl 4 rfl) ?_
        refine bi_gt (tgt := 54) (a := xa.toInt) (b := ya.toInt) hC.x hC.b rfl rfl dX9_difference_46 (by decide) (fun c_31 => ?_) (fun c_31 => ?_)
        · skip
          refine lv_iload hC.x hC.b dX9_difference_54 (lv_at hl 0 rfl) ?_
          refine lv_ineg hC.x hC.b dX9_difference_56 ?_
          exact reti hC hK hR hS (⟨by exact (Fr.tr Fr.rf f_18), by (try dsimp only); (try subst_vars); first | exact Or.inl ⟨_, by assumption, by decide⟩ | exact Or.inr ⟨⟨(by unfold fl; (repeat (first | rw [if_pos (by omega)] | rw [if_neg (by omega)])); first | done | rfl), (by unfold fl; (repeat (first | rw [if_pos (by omega)] | rw [if_neg (by omega)])); first | done | rfl)⟩, _, by assumption, Or.inl ⟨by omega, rfl⟩⟩ | exact Or.inr ⟨⟨(by unfold fl; (repeat (first | rw [if_pos (by omega)] | rw [if_neg (by omega)])); first | done | rfl), (by unfold fl; (repeat (first | rw [if_pos (by omega)] | rw [if_neg (by omega)])); first | done | rfl)⟩, _, by assumption, Or.inr ⟨by omega, by first | (rw [if_pos (by omega)]; (congr 2 <;> first | assumption | omega)) | (rw [if_neg (by omega)]; (congr 3 <;> first | assumption | omega))⟩⟩ | (exfalso; omega)⟩) dX9_difference_57
        · skip
          refine lv_iload hC.x hC.b dX9_difference_49 (lv_at hl 0 rfl) ?_
          refine lv_goto (tgt := 57) hC.x hC.b dX9_difference_51 (by decide) ?_
          exact reti hC hK hR hS (⟨by exact (Fr.tr Fr.rf f_18), by (try dsimp only); (try subst_vars); first | exact Or.inl ⟨_, by assumption, by decide⟩ | exact Or.inr ⟨⟨(by unfold fl; (repeat (first | rw [if_pos (by omega)] | rw [if_neg (by omega)])); first | done | rfl), (by unfold fl; (repeat (first | rw [if_pos (by omega)] | rw [if_neg (by omega)])); first | done | rfl)⟩, _, by assumption, Or.inl ⟨by omega, rfl⟩⟩ | exact Or.inr ⟨⟨(by unfold fl; (repeat (first | rw [if_pos (by omega)] | rw [if_neg (by omega)])); first | done | rfl), (by unfold fl; (repeat (first | rw [if_pos (by omega)] | rw [if_neg (by omega)])); first | done | rfl)⟩, _, by assumption, Or.inr ⟨by omega, by first | (rw [if_pos (by omega)]; (congr 2 <;> first | assumption | omega)) | (rw [if_neg (by omega)]; (congr 3 <;> first | assumption | omega))⟩⟩ | (exfalso; omega)⟩) dX9_difference_57
      · skip
        refine lv_istore (lv' := [(5, .int (0 : Int32)), (4, .int (0 : Int32)), (0, .ref (G.2.1 0)), (1, .int xa), (2, .int ya), (3, .int hr)]) hC.x hC.b dX9_difference_42 hl (by decide) rfl (fun ls hl => ?_)
        refine lv_iload_n hC.x hC.b dX9_difference_44 rfl (lv_at hl 3 rfl) ?_
        refine lv_iload_n hC.x hC.b dX9_difference_45 rfl (lv_at hl 4 rfl) ?_
        refine bi_gt (tgt := 54) (a := xa.toInt) (b := ya.toInt) hC.x hC.b rfl rfl dX9_difference_46 (by decide) (fun c_32 => ?_) (fun c_32 => ?_)
        · skip
          refine lv_iload hC.x hC.b dX9_difference_54 (lv_at hl 0 rfl) ?_
          refine lv_ineg hC.x hC.b dX9_difference_56 ?_
          exact reti hC hK hR hS (⟨by exact (Fr.tr Fr.rf f_18), by (try dsimp only); (try subst_vars); first | exact Or.inl ⟨_, by assumption, by decide⟩ | exact Or.inr ⟨⟨(by unfold fl; (repeat (first | rw [if_pos (by omega)] | rw [if_neg (by omega)])); first | done | rfl), (by unfold fl; (repeat (first | rw [if_pos (by omega)] | rw [if_neg (by omega)])); first | done | rfl)⟩, _, by assumption, Or.inl ⟨by omega, rfl⟩⟩ | exact Or.inr ⟨⟨(by unfold fl; (repeat (first | rw [if_pos (by omega)] | rw [if_neg (by omega)])); first | done | rfl), (by unfold fl; (repeat (first | rw [if_pos (by omega)] | rw [if_neg (by omega)])); first | done | rfl)⟩, _, by assumption, Or.inr ⟨by omega, by first | (rw [if_pos (by omega)]; (congr 2 <;> first | assumption | omega)) | (rw [if_neg (by omega)]; (congr 3 <;> first | assumption | omega))⟩⟩ | (exfalso; omega)⟩) dX9_difference_57
        · skip
          refine lv_iload hC.x hC.b dX9_difference_49 (lv_at hl 0 rfl) ?_
          refine lv_goto (tgt := 57) hC.x hC.b dX9_difference_51 (by decide) ?_
          exact reti hC hK hR hS (⟨by exact (Fr.tr Fr.rf f_18), by (try dsimp only); (try subst_vars); first | exact Or.inl ⟨_, by assumption, by decide⟩ | exact Or.inr ⟨⟨(by unfold fl; (repeat (first | rw [if_pos (by omega)] | rw [if_neg (by omega)])); first | done | rfl), (by unfold fl; (repeat (first | rw [if_pos (by omega)] | rw [if_neg (by omega)])); first | done | rfl)⟩, _, by assumption, Or.inl ⟨by omega, rfl⟩⟩ | exact Or.inr ⟨⟨(by unfold fl; (repeat (first | rw [if_pos (by omega)] | rw [if_neg (by omega)])); first | done | rfl), (by unfold fl; (repeat (first | rw [if_pos (by omega)] | rw [if_neg (by omega)])); first | done | rfl)⟩, _, by assumption, Or.inr ⟨by omega, by first | (rw [if_pos (by omega)]; (congr 2 <;> first | assumption | omega)) | (rw [if_neg (by omega)]; (congr 3 <;> first | assumption | omega))⟩⟩ | (exfalso; omega)⟩) dX9_difference_57
    · skip
      refine lv_ldc hC.x hC.b hC.ow (hC.ts _ TK_X9_148) dX9_difference_27 ?_
      exact reti hC hK hR hS (⟨by exact (Fr.tr Fr.rf f_18), by (try dsimp only); (try subst_vars); first | exact Or.inl ⟨_, by assumption, by decide⟩ | exact Or.inr ⟨⟨(by unfold fl; (repeat (first | rw [if_pos (by omega)] | rw [if_neg (by omega)])); first | done | rfl), (by unfold fl; (repeat (first | rw [if_pos (by omega)] | rw [if_neg (by omega)])); first | done | rfl)⟩, _, by assumption, Or.inl ⟨by omega, rfl⟩⟩ | exact Or.inr ⟨⟨(by unfold fl; (repeat (first | rw [if_pos (by omega)] | rw [if_neg (by omega)])); first | done | rfl), (by unfold fl; (repeat (first | rw [if_pos (by omega)] | rw [if_neg (by omega)])); first | done | rfl)⟩, _, by assumption, Or.inr ⟨by omega, by first | (rw [if_pos (by omega)]; (congr 2 <;> first | assumption | omega)) | (rw [if_neg (by omega)]; (congr 3 <;> first | assumption | omega))⟩⟩ | (exfalso; omega)⟩) dX9_difference_29
  · skip
    refine lv_istore (lv' := [(4, .int (-1 : Int32)), (0, .ref (G.2.1 0)), (1, .int xa), (2, .int ya), (3, .int hr)]) hC.x hC.b dX9_difference_6 hl (by decide) rfl (fun ls hl => ?_)
    refine lv_iload hC.x hC.b dX9_difference_8 (lv_at hl 0 rfl) ?_
    refine bz_eq (tgt := 16) (a := (-1)) (b := 0) hC.x hC.b rfl rfl dX9_difference_10 (by decide) (fun c_33 => absurd c_33 (by decide)) (fun _ => ?_)
    refine lv_iload hC.x hC.b dX9_difference_13 (lv_at hl 0 rfl) ?_
    exact reti hC hK hR hS (⟨by exact Fr.rf, by (try dsimp only); (try subst_vars); first | exact Or.inl ⟨_, by assumption, by decide⟩ | exact Or.inr ⟨⟨(by unfold fl; (repeat (first | rw [if_pos (by omega)] | rw [if_neg (by omega)])); first | done | rfl), (by unfold fl; (repeat (first | rw [if_pos (by omega)] | rw [if_neg (by omega)])); first | done | rfl)⟩, _, by assumption, Or.inl ⟨by omega, rfl⟩⟩ | exact Or.inr ⟨⟨(by unfold fl; (repeat (first | rw [if_pos (by omega)] | rw [if_neg (by omega)])); first | done | rfl), (by unfold fl; (repeat (first | rw [if_pos (by omega)] | rw [if_neg (by omega)])); first | done | rfl)⟩, _, by assumption, Or.inr ⟨by omega, by first | (rw [if_pos (by omega)]; (congr 2 <;> first | assumption | omega)) | (rw [if_neg (by omega)]; (congr 3 <;> first | assumption | omega))⟩⟩ | (exfalso; omega)⟩) dX9_difference_15
  · skip
    refine lv_istore (lv' := [(4, .int (-2 : Int32)), (0, .ref (G.2.1 0)), (1, .int xa), (2, .int ya), (3, .int hr)]) hC.x hC.b dX9_difference_6 hl (by decide) rfl (fun ls hl => ?_)
    refine lv_iload hC.x hC.b dX9_difference_8 (lv_at hl 0 rfl) ?_
    refine bz_eq (tgt := 16) (a := (-2)) (b := 0) hC.x hC.b rfl rfl dX9_difference_10 (by decide) (fun c_34 => absurd c_34 (by decide)) (fun _ => ?_)
    refine lv_iload hC.x hC.b dX9_difference_13 (lv_at hl 0 rfl) ?_
    exact reti hC hK hR hS (⟨by exact Fr.rf, by (try dsimp only); (try subst_vars); first | exact Or.inl ⟨_, by assumption, by decide⟩ | exact Or.inr ⟨⟨(by unfold fl; (repeat (first | rw [if_pos (by omega)] | rw [if_neg (by omega)])); first | done | rfl), (by unfold fl; (repeat (first | rw [if_pos (by omega)] | rw [if_neg (by omega)])); first | done | rfl)⟩, _, by assumption, Or.inl ⟨by omega, rfl⟩⟩ | exact Or.inr ⟨⟨(by unfold fl; (repeat (first | rw [if_pos (by omega)] | rw [if_neg (by omega)])); first | done | rfl), (by unfold fl; (repeat (first | rw [if_pos (by omega)] | rw [if_neg (by omega)])); first | done | rfl)⟩, _, by assumption, Or.inr ⟨by omega, by first | (rw [if_pos (by omega)]; (congr 2 <;> first | assumption | omega)) | (rw [if_neg (by omega)]; (congr 3 <;> first | assumption | omega))⟩⟩ | (exfalso; omega)⟩) dX9_difference_15

abbrev po3_X9_along (σ : SI) (τ : SL) (xa : Int32) (xq : Nat) (ya : Int32) (yq : Nat) (hr : Int32) : Int32 → SI × SL → Prop := fun v u => ((AL σ u.1) ∧ (AC σ xa xq ya yq hr v))
set_option maxRecDepth 100000 in
set_option maxHeartbeats 4000000 in
theorem c3_X9_along (l : Launch) {G : Gx} {A : Nat → Prop} (hG : GOk G A) (σ : SI) (τ : SL) (xa : Int32) (xq : Nat) (hp_xq : xa.toInt.toNat = xq) (ya : Int32) (yq : Nat) (hp_yq : ya.toInt.toNat = yq) (hr : Int32) : MI l G A 5 yX9_along cX9_along 6 (some .int) [.ref (G.2.1 0), .int xa, .int ya, .int hr] (σ, τ) (po3_X9_along σ τ xa xq ya yq hr) := by
  refine met_of (own := RX9) (by decide +kernel) rfl [(0, .ref (G.2.1 0)), (1, .int xa), (2, .int ya), (3, .int hr)] rfl (Nat.le_of_ble_eq_true rfl) ?_
  intro p e s m args below meth c ls hC hK hR hl
  have hS : va_S A s.heap s.heap [] := va_S.rf
  refine lv_aload_n hC.x hC.b dX9_along_0 rfl (lv_at hl 0 rfl) ?_
  refine lv_iload_n hC.x hC.b dX9_along_1 rfl (lv_at hl 1 rfl) ?_
  refine lv_iload_n hC.x hC.b dX9_along_2 rfl (lv_at hl 2 rfl) ?_
  refine goip (runV (As := [.int xa, .int ya]) (rest := []) hC hK hR hl.1 (c3_X9_refusalOfClocks l hG σ τ xa xq (by first | rfl | (rw [show xa.toInt = xa.toInt from rfl]; done) | (rw [show xa.toInt = xa.toInt from rfl]; exact hp_xq)) ya yq (by first | rfl | (rw [show ya.toInt = ya.toInt from rfl]; done) | (rw [show ya.toInt = ya.toInt from rfl]; exact hp_yq)) ) (call_b hC.ts TC_X9_refusalOfClocks TN_X9 TM_X9_149 hd_X9_refusalOfClocks ⟨Nat.le_of_ble_eq_true rfl, Nat.le_of_ble_eq_true rfl⟩) TI_X9_refusalOfClocks TS_X9_refusalOfClocks (ct_bench G _ _) rfl rfl rfl (Nat.le_of_ble_eq_true rfl) dX9_along_3 ⟨Nat.le_of_ble_eq_true rfl, Nat.le_of_ble_eq_true rfl⟩) hS (fun v_1 H locs w_2 hR hS => ?_)
  rcases w_2 with ⟨rfl, f_3, f_4, f_5, f_6, f_7, f_8, f_9, f_10⟩ | ⟨rfl, f_11⟩ | ⟨rfl, f_12⟩
  · skip
    refine lv_istore (lv' := [(4, .int (0 : Int32)), (0, .ref (G.2.1 0)), (1, .int xa), (2, .int ya), (3, .int hr)]) hC.x hC.b dX9_along_6 hl (by decide) rfl (fun ls hl => ?_)
    refine lv_iload hC.x hC.b dX9_along_8 (lv_at hl 0 rfl) ?_
    refine bz_eq (tgt := 16) (a := 0) (b := 0) hC.x hC.b rfl rfl dX9_along_10 (by decide) (fun _ => ?_) (fun c_13 => absurd c_13 (by decide))
    refine lv_aload_n hC.x hC.b dX9_along_16 rfl (lv_at hl 1 rfl) ?_
    refine lv_iload_n hC.x hC.b dX9_along_17 rfl (lv_at hl 2 rfl) ?_
    refine lv_iload_n hC.x hC.b dX9_along_18 rfl (lv_at hl 3 rfl) ?_
    refine lv_iload_n hC.x hC.b dX9_along_19 rfl (lv_at hl 4 rfl) ?_
    refine goi (runV (As := [.int xa, .int ya, .int hr]) (rest := []) hC hK hR hl.1 (c3_X9_findWay l hG σ τ xa ya hr (by omega) (by omega)) (call_b hC.ts TC_X9_findWay TN_X9 TM_X9_153 hd_X9_findWay ⟨Nat.le_of_ble_eq_true rfl, Nat.le_of_ble_eq_true rfl⟩) TI_X9_findWay TS_X9_findWay (ct_bench G _ _) rfl rfl rfl (Nat.le_of_ble_eq_true rfl) dX9_along_20 ⟨Nat.le_of_ble_eq_true rfl, Nat.le_of_ble_eq_true rfl⟩) hS (fun v_14 s_16 t_17 H locs w_15 hR hS => ?_)
    try dsimp only [po3_X9_findWay] at w_15
    obtain ⟨f_18, f_19⟩ := w_15
    refine lv_istore (lv' := [(5, .int v_14), (4, .int (0 : Int32)), (0, .ref (G.2.1 0)), (1, .int xa), (2, .int ya), (3, .int hr)]) hC.x hC.b dX9_along_23 hl (by decide) rfl (fun ls hl => ?_)
    refine lv_aload_n hC.x hC.b dX9_along_25 rfl (lv_at hl 2 rfl) ?_
    refine lv_iconst (v := 0) hC.x hC.b dX9_along_26 (by decide) ?_
    refine lv_iload hC.x hC.b dX9_along_27 (lv_at hl 0 rfl) ?_
    have av_20 : (0 : Int32).toInt = 0 := by decide
    refine goip (runS (As := [.int (0 : Int32), .int v_14]) (rest := [.ref (G.2.1 0)]) hC hK hR hl.1 (c_J9_max_7cf53 l hG s_16 t_17 (0 : Int32) v_14 ) (call_b hC.ts TC_J9_max_7cf53 TN_J9 TM_X9_157 hd_J9_max_7cf53 ⟨Nat.le_of_ble_eq_true rfl, Nat.le_of_ble_eq_true rfl⟩) TT_J9_max_7cf53 rfl rfl (Nat.le_of_ble_eq_true rfl) dX9_along_29 ⟨Nat.le_of_ble_eq_true rfl, Nat.le_of_ble_eq_true rfl⟩) hS (fun v_21 H locs w_22 hR hS => ?_)
    have f_23 := w_22
    refine rputi hC hK hG hR hS (ct_bench G _ _) rfl uin_X9 tyX9 tyX9_ok nmX9 7 (by decide) TF_X9_61 rfl (Or.inl rfl) (Nat.le_of_ble_eq_true rfl) rfl (ct_bench G _ _) dX9_along_32 (fun s_25 es_24 H locs hR hS => ?_)
    refine lv_aload_n hC.x hC.b dX9_along_35 rfl (lv_at hl 2 rfl) ?_
    refine rget hC hK hR (ct_bench G _ _) rfl uin_X9 3 (by decide) TF_X9_35 rfl dX9_along_36 ?_
    refine lv_iload_n hC.x hC.b dX9_along_39 rfl (lv_at hl 3 rfl) ?_
    refine lv_iload_n hC.x hC.b dX9_along_40 rfl (lv_at hl 4 rfl) ?_
    refine goip (runS (As := [.int xa, .int ya]) (rest := [.ref (G.2.1 12)]) hC hK hR hl.1 (c_J9_max_7cf53 l hG s_25 t_17 xa ya ) (call_b hC.ts TC_J9_max_7cf53 TN_J9 TM_X9_157 hd_J9_max_7cf53 ⟨Nat.le_of_ble_eq_true rfl, Nat.le_of_ble_eq_true rfl⟩) TT_J9_max_7cf53 rfl rfl (Nat.le_of_ble_eq_true rfl) dX9_along_41 ⟨Nat.le_of_ble_eq_true rfl, Nat.le_of_ble_eq_true rfl⟩) hS (fun v_26 H locs w_27 hR hS => ?_)
    have f_28 := w_27
    refine lv_aload_n hC.x hC.b dX9_along_44 rfl (lv_at hl 2 rfl) ?_
    refine rget hC hK hR (ct_bench G _ _) rfl uin_X9 7 (by decide) TF_X9_61 rfl dX9_along_45 ?_
    have rd_29 : (s_25 0 7).toInt = v_21.toInt := congrArg Int32.toInt (show s_25 0 7 = v_21 from (by rw [es_24]; exact up2_s))
    refine lv_iload_n hC.x hC.b dX9_along_48 rfl (lv_at hl 3 rfl) ?_
    refine lv_iload_n hC.x hC.b dX9_along_49 rfl (lv_at hl 4 rfl) ?_
    refine bi_le (tgt := 57) (a := xa.toInt) (b := ya.toInt) hC.x hC.b rfl rfl dX9_along_50 (by decide) (fun c_30 => ?_) (fun c_30 => ?_)
    · skip
      refine lv_iconst (v := 0) hC.x hC.b dX9_along_57 (by decide) ?_
      refine lv_aload_n hC.x hC.b dX9_along_58 rfl (lv_at hl 2 rfl) ?_
      refine rget hC hK hR (ct_bench G _ _) rfl uin_X9 6 (by decide) TF_X9_57 rfl dX9_along_59 ?_
      have av_31 : (0 : Int32).toInt = 0 := by decide
      refine gov (runV (As := [.int v_26, .int (s_25 0 7), .int (0 : Int32), .ref (G.2.1 23)]) (rest := []) hC hK hR hl.1 (c_X8_writeWay l hG s_25 t_17 v_26 (s_25 0 7) (0 : Int32) ) (call_b hC.ts TC_X8_writeWay TN_X8 TM_X9_165 hd_X8_writeWay ⟨Nat.le_of_ble_eq_true rfl, Nat.le_of_ble_eq_true rfl⟩) TI_X8_writeWay TS_X8_writeWay (ct_ways G _ _) rfl rfl rfl (Nat.le_of_ble_eq_true rfl) dX9_along_62 ⟨Nat.le_of_ble_eq_true rfl, Nat.le_of_ble_eq_true rfl⟩) hS (fun s_34 t_35 H locs w_33 hR hS => ?_)
      try dsimp only [po_X8_writeWay] at w_33
      obtain ⟨et_36, f_37⟩ := w_33
      rw [et_36] at hR
      refine lv_iload hC.x hC.b dX9_along_65 (lv_at hl 0 rfl) ?_
      exact reti hC hK hR hS (⟨by subst es_24; (first | exact AL.rf | exact AL.mk (by assumption) (by assumption)), by subst es_24; (first | exact Or.inl ⟨_, by assumption, by decide⟩ | exact Or.inr ⟨⟨(by unfold fl; (repeat (first | rw [if_pos (by omega)] | rw [if_neg (by omega)])); first | done | rfl), (by unfold fl; (repeat (first | rw [if_pos (by omega)] | rw [if_neg (by omega)])); first | done | rfl)⟩, _, by assumption⟩)⟩) dX9_along_67
    · skip
      refine lv_iconst (v := 1) hC.x hC.b dX9_along_53 (by decide) ?_
      refine lv_goto (tgt := 58) hC.x hC.b dX9_along_54 (by decide) ?_
      refine lv_aload_n hC.x hC.b dX9_along_58 rfl (lv_at hl 2 rfl) ?_
      refine rget hC hK hR (ct_bench G _ _) rfl uin_X9 6 (by decide) TF_X9_57 rfl dX9_along_59 ?_
      have av_38 : (1 : Int32).toInt = 1 := by decide
      refine gov (runV (As := [.int v_26, .int (s_25 0 7), .int (1 : Int32), .ref (G.2.1 23)]) (rest := []) hC hK hR hl.1 (c_X8_writeWay l hG s_25 t_17 v_26 (s_25 0 7) (1 : Int32) ) (call_b hC.ts TC_X8_writeWay TN_X8 TM_X9_165 hd_X8_writeWay ⟨Nat.le_of_ble_eq_true rfl, Nat.le_of_ble_eq_true rfl⟩) TI_X8_writeWay TS_X8_writeWay (ct_ways G _ _) rfl rfl rfl (Nat.le_of_ble_eq_true rfl) dX9_along_62 ⟨Nat.le_of_ble_eq_true rfl, Nat.le_of_ble_eq_true rfl⟩) hS (fun s_41 t_42 H locs w_40 hR hS => ?_)
      try dsimp only [po_X8_writeWay] at w_40
      obtain ⟨et_43, f_44⟩ := w_40
      rw [et_43] at hR
      refine lv_iload hC.x hC.b dX9_along_65 (lv_at hl 0 rfl) ?_
      exact reti hC hK hR hS (⟨by subst es_24; (first | exact AL.rf | exact AL.mk (by assumption) (by assumption)), by subst es_24; (first | exact Or.inl ⟨_, by assumption, by decide⟩ | exact Or.inr ⟨⟨(by unfold fl; (repeat (first | rw [if_pos (by omega)] | rw [if_neg (by omega)])); first | done | rfl), (by unfold fl; (repeat (first | rw [if_pos (by omega)] | rw [if_neg (by omega)])); first | done | rfl)⟩, _, by assumption⟩)⟩) dX9_along_67
  · skip
    refine lv_istore (lv' := [(4, .int (-1 : Int32)), (0, .ref (G.2.1 0)), (1, .int xa), (2, .int ya), (3, .int hr)]) hC.x hC.b dX9_along_6 hl (by decide) rfl (fun ls hl => ?_)
    refine lv_iload hC.x hC.b dX9_along_8 (lv_at hl 0 rfl) ?_
    refine bz_eq (tgt := 16) (a := (-1)) (b := 0) hC.x hC.b rfl rfl dX9_along_10 (by decide) (fun c_45 => absurd c_45 (by decide)) (fun _ => ?_)
    refine lv_iload hC.x hC.b dX9_along_13 (lv_at hl 0 rfl) ?_
    exact reti hC hK hR hS (⟨by first | exact AL.rf | exact AL.mk (by assumption) (by assumption), by first | exact Or.inl ⟨_, by assumption, by decide⟩ | exact Or.inr ⟨⟨(by unfold fl; (repeat (first | rw [if_pos (by omega)] | rw [if_neg (by omega)])); first | done | rfl), (by unfold fl; (repeat (first | rw [if_pos (by omega)] | rw [if_neg (by omega)])); first | done | rfl)⟩, _, by assumption⟩⟩) dX9_along_15
  · skip
    refine lv_istore (lv' := [(4, .int (-2 : Int32)), (0, .ref (G.2.1 0)), (1, .int xa), (2, .int ya), (3, .int hr)]) hC.x hC.b dX9_along_6 hl (by decide) rfl (fun ls hl => ?_)
    refine lv_iload hC.x hC.b dX9_along_8 (lv_at hl 0 rfl) ?_
    refine bz_eq (tgt := 16) (a := (-2)) (b := 0) hC.x hC.b rfl rfl dX9_along_10 (by decide) (fun c_46 => absurd c_46 (by decide)) (fun _ => ?_)
    refine lv_iload hC.x hC.b dX9_along_13 (lv_at hl 0 rfl) ?_
    exact reti hC hK hR hS (⟨by first | exact AL.rf | exact AL.mk (by assumption) (by assumption), by first | exact Or.inl ⟨_, by assumption, by decide⟩ | exact Or.inr ⟨⟨(by unfold fl; (repeat (first | rw [if_pos (by omega)] | rw [if_neg (by omega)])); first | done | rfl), (by unfold fl; (repeat (first | rw [if_pos (by omega)] | rw [if_neg (by omega)])); first | done | rfl)⟩, _, by assumption⟩⟩) dX9_along_15
