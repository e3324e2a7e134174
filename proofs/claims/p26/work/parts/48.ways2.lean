/-! ===== both sides' ways are one ===== -/
def Fx (σ s : SI) : Prop := Fr (fun k => k = 0 ∨ (12 ≤ k ∧ k ≤ 17) ∨ k = 23) σ s
theorem fl_ag {σ s : SI} {pl : Int32} {q : Nat} (h : Rel σ) (r : Fx σ s) (hq : pl.toInt.toNat = q) : fl 2 σ pl q = fl 36 s pl q := by
  unfold fl
  rw [r 36 (by omega)]
  by_cases g : 0 ≤ pl.toInt ∧ pl.toInt < 24
  · have e := (h q (by omega)).1
    rw [e]
  · rw [if_neg (by omega), if_neg (by omega)]
theorem fl_0 {k : Nat} {σ : SI} {pl : Int32} {q : Nat} (h : fl k σ pl q = 0) : 0 ≤ pl.toInt ∧ pl.toInt < 24 := by
  by_cases g : 0 ≤ pl.toInt ∧ pl.toInt < 24
  · exact g
  · exfalso
    unfold fl at h
    rw [if_neg (by omega)] at h
    omega
theorem rx_ag {σ s : SI} {xa ya : Int32} {xq yq : Nat} {z z' : Int} (ex : fl 2 σ xa xq = fl 36 s xa xq) (ey : fl 2 σ ya yq = fl 36 s ya yq) (h : RX 2 σ xa xq ya yq z) (h' : RX 36 s xa xq ya yq z') : z = z' := by
  unfold RX at h h'
  rw [ex, ey] at h
  rcases h with ⟨a1, a2⟩ | ⟨a1, a2, a3⟩ <;> rcases h' with ⟨b1, b2⟩ | ⟨b1, b2, b3⟩ <;> omega
theorem rx_no {k : Nat} {σ : SI} {xa ya : Int32} {xq yq : Nat} {z : Int} (h : RX k σ xa xq ya yq z) (hx : fl k σ xa xq = 0) (hy : fl k σ ya yq = 0) : False := by
  rcases h with ⟨a1, -⟩ | ⟨-, a1, -⟩
  · exact a1 hx
  · exact a1 hy
theorem UM_x {σ s : SI} (r : Fx σ s) {hr : Int32} {hq : Nat} : UM s hr hq = UM σ hr hq ∧ xM s = xM σ ∧ yM s = yM σ ∧ (fun l => toldM s l hr hq) = (fun l => toldM σ l hr hq) := by
  have e : ∀ l, toldM s l hr hq = toldM σ l hr hq := fun l => by
    unfold toldM
    rw [r 36 (by omega), r 47 (by omega), r 48 (by omega), r 49 (by omega), r 50 (by omega), r 51 (by omega), r 35 (by omega)]
  refine ⟨?_, ?_, ?_, funext e⟩
  · funext l
    unfold UM
    rw [e, r 36 (by omega)]
  · funext l
    unfold xM
    rw [r 37 (by omega)]
  · funext l
    unfold yM
    rw [r 38 (by omega)]
theorem lv_of {σ : SI} {hr : Int32} {hq : Nat} (h : Rel σ) (hE : EN σ) (hn : 0 ≤ (σ 35 29).toInt ∧ (σ 35 29).toInt ≤ 200) (hh : hr.toInt.toNat = hq) (d1 : 0 ≤ hr.toInt) (d2 : hr.toInt ≤ (σ 35 29).toInt) : LV σ hr (UM σ hr hq) (xM σ) (yM σ) (fun l => toldM σ l hr hq) := fun l hl => by
  have hP := h l hl
  rw [hP.1]
  constructor
  · constructor
    · intro u
      rw [told_eq h hn hh hl ⟨u.1, u.2.1⟩ d1 d2]
      exact ⟨u.1, u.2.1, u.2.2⟩
    · rintro ⟨a, b, c⟩
      rw [told_eq h hn hh hl ⟨a, b⟩ d1 d2] at c
      exact ⟨a, b, c⟩
  · intro hk
    have hL := hP.2.2.1 hk
    obtain ⟨e0, e1, e2⟩ := hE l hl hk
    rw [hL.2.1, hL.2.2.1]
    unfold xM yM
    exact ⟨by omega, by omega, by omega, by omega, by omega, (told_eq h hn hh hl hk d1 d2).symm⟩
theorem ways_core {U : Nat → Prop} {x y : Nat → Nat} {tl : Nat → Int32} {a b n : Nat} {s : SI} {f : Nat → Int} (hB : BQ U x y tl a (24 * n) s) (hn : (s 12 6).toInt = (n : Int)) (hI : BFI U x y b f) (hL : BFL U x y 24 0 f) (hb : b < 24) :
    (99 ≤ f a → (s 14 b).toInt = -1) ∧ ∀ (g lk : Nat → Nat) (k : Nat), GP U x y f a g lk k → g k = b → (k : Int) = f a → k ≤ 23 → (s 14 b).toInt = (k : Int) ∧ s 15 b = DS x tl g lk k := by
  obtain ⟨m, v, e, h1, h2, h3, h4, h5, h6, h7, h8⟩ := hB
  have em : m = n := by omega
  subst em
  have h24 := h1.n24
  constructor
  · intro h99
    by_cases z : (s 14 b).toInt = -1
    · exact z
    · exfalso
      obtain ⟨i, hi, hv⟩ := (h4 b hb).mp z
      have hfb : f (v i) + (i : Int) ≤ 23 := by
        rw [hv, hI.2.1]
        omega
      have := h1.rch hI hL i i (Nat.le_refl i) hi hfb
      omega
  · intro g lk k hg hgk hk hk23
    have W := h1.way hI hL (by omega) hg.1 (fun i hi => hg.2 i (by omega))
    have key : ∀ j : Nat, j ≤ k → (s 14 (g j)).toInt = (j : Int) ∧ s 15 (g j) = DS x tl g lk j := by
      intro j
      induction j with
      | zero =>
        intro _
        rw [hg.1]
        exact ⟨h5, h6⟩
      | succ j ih =>
        intro hj
        obtain ⟨i1, i2⟩ := ih (by omega)
        obtain ⟨c, c1, c2, -, c4⟩ := W (j + 1) (by omega)
        obtain ⟨d1, d2, d3, d4⟩ := c4 j rfl
        obtain ⟨t1, t2⟩ := h7 c d4 c1
        rw [d1, c2] at t1 t2
        rw [d2] at t2
        refine ⟨by omega, ?_⟩
        rw [t2, i2]
        rfl
    have t := key k (Nat.le_refl k)
    rw [hgk] at t
    exact t
theorem ways_ag {σ s s1 s2 : SI} {xa ya hr w z : Int32} {hq : Nat} (hLV : LV σ hr (UM s hr hq) (xM s) (yM s) (fun l => toldM s l hr hq)) (hx : 0 ≤ xa.toInt ∧ xa.toInt < 24) (hy : 0 ≤ ya.toInt ∧ ya.toInt < 24) (F : FWb σ s1 xa ya hr w) (Gq : GO s s2 xa ya hr hq z) :
    (z = 0 ∧ w.toInt = -1) ∨ (z = 1 ∧ w.toInt ≠ -1 ∧ w.toInt = (s2 35 41).toInt ∧ s2 35 43 = if xa.toInt ≤ ya.toInt then s1 15 (max xa.toInt ya.toInt).toNat else -s1 15 (max xa.toInt ya.toInt).toNat) := by
  obtain ⟨n, b1, b2, b3⟩ := F _ _ _ _ hLV
  obtain ⟨f, hI, hL, hz⟩ := Gq
  obtain ⟨c1, c2⟩ := ways_core b1 b2 hI hL (by omega)
  rcases hz with ⟨z0, z1⟩ | ⟨z0, g, lk, k, g1, g2, g3, g4, g5, g6⟩
  · exact Or.inl ⟨z0, by rw [b3]; exact c1 z1⟩
  · obtain ⟨t1, t2⟩ := c2 g lk k g1 g2 g3 g4
    refine Or.inr ⟨z0, ?_, ?_, ?_⟩
    · rw [b3, t1]
      omega
    · rw [b3, t1, g5]
    · rw [g6, t2]
theorem lv_at_x {σ s : SI} {hr : Int32} {hq : Nat} (h : Rel σ) (hE : EN σ) (hn : 0 ≤ (σ 35 29).toInt ∧ (σ 35 29).toInt ≤ 200) (hh : hr.toInt.toNat = hq) (r : Fx σ s) (d1 : 0 ≤ hr.toInt) (d2 : hr.toInt ≤ (σ 35 29).toInt) : LV σ hr (UM s hr hq) (xM s) (yM s) (fun l => toldM s l hr hq) := by
  obtain ⟨e1, e2, e3, e4⟩ := UM_x (hr := hr) (hq := hq) r
  rw [e1, e2, e3, e4]
  exact lv_of h hE hn hh d1 d2
theorem Fx.w {σ s : SI} (h : Fr (fun k => 12 ≤ k ∧ k ≤ 17) σ s) : Fx σ s := fun k hk => h k (fun q => hk (Or.inr (Or.inl q)))
theorem ag_difference {σ s1 : SI} {xa ya hr v v2 : Int32} {xq yq hq : Nat} (h : Rel σ) (hE : EN σ) (hn : 0 ≤ (σ 35 29).toInt ∧ (σ 35 29).toInt ≤ 200) (hw : σ 0 8 = σ 35 29) (hx : xa.toInt.toNat = xq) (hy : ya.toInt.toNat = yq) (hh : hr.toInt.toNat = hq) (r : Fx σ s1) (w : DC σ s1 xa xq ya yq hr v) (w2 : DM s1 xa xq ya yq hr hq v2) : v = v2 := by
  have ex := fl_ag h r hx
  have ey := fl_ag h r hy
  have e29 : s1 35 29 = σ 35 29 := by rw [r 35 (by omega)]
  unfold DM at w2
  unfold DC at w
  rw [e29] at w2
  rw [ex, ey] at w
  rcases w with ⟨z, w, ez⟩ | ⟨w0, u, w, wv⟩ <;> rcases w2 with ⟨z2, w2, ez2⟩ | ⟨w20, w2⟩
  · have := rx_ag ex ey w w2
    exact Int32.toInt_inj.mp (by omega)
  · exfalso
    exact rx_no w (ex.trans w20.1) (ey.trans w20.2)
  · exact (rx_no w2 w0.1 w0.2).elim
  · unfold FW at w
    rw [hw] at w
    rcases w2 with ⟨n2, w2⟩ | ⟨n2, t, s2, hG, w2⟩
    · rcases w with ⟨-, w⟩ | ⟨n1, -⟩
      · rcases wv with ⟨-, wv⟩ | ⟨q, -⟩
        · rw [wv, w2]
        · exact absurd w q
      · exact absurd n1 n2
    · rcases w with ⟨n1, -⟩ | ⟨-, w⟩
      · exact absurd n2 n1
      · rcases ways_ag (lv_at_x h hE hn hh r n2.1 n2.2) (fl_0 w20.1) (fl_0 w20.2) w hG with ⟨a1, a2⟩ | ⟨a1, a2, a3, a4⟩
        · rcases wv with ⟨-, wv⟩ | ⟨q, -⟩
          · rcases w2 with ⟨-, w2⟩ | ⟨q, -⟩
            · rw [wv, w2]
            · rw [a1] at q
              exact absurd q (by decide)
          · exact absurd a2 q
        · rcases wv with ⟨q, -⟩ | ⟨-, wv⟩
          · exact absurd q a2
          · rcases w2 with ⟨q, -⟩ | ⟨-, w2⟩
            · rw [a1] at q
              exact absurd q (by decide)
            · rw [wv, w2, a4]
theorem ag_along {σ s1 : SI} {xa ya hr v v2 : Int32} {xq yq hq : Nat} (h : Rel σ) (hE : EN σ) (hn : 0 ≤ (σ 35 29).toInt ∧ (σ 35 29).toInt ≤ 200) (hw : σ 0 8 = σ 35 29) (hx : xa.toInt.toNat = xq) (hy : ya.toInt.toNat = yq) (hh : hr.toInt.toNat = hq) (r : Fx σ s1) (w : AC σ xa xq ya yq hr v) (w2 : AM s1 xa xq ya yq hr hq v2) : v = v2 := by
  have ex := fl_ag h r hx
  have ey := fl_ag h r hy
  have e29 : s1 35 29 = σ 35 29 := by rw [r 35 (by omega)]
  unfold AM at w2
  unfold AC at w
  rw [e29] at w2
  rw [ex, ey] at w
  refine Int32.toInt_inj.mp ?_
  rcases w with ⟨z, w, ez⟩ | ⟨w0, u, w⟩ <;> rcases w2 with ⟨z2, w2, ez2⟩ | ⟨w20, w2⟩
  · have := rx_ag ex ey w w2
    omega
  · exfalso
    exact rx_no w (ex.trans w20.1) (ey.trans w20.2)
  · exact (rx_no w2 w0.1 w0.2).elim
  · unfold FW at w
    rw [hw] at w
    rcases w2 with ⟨n2, w2⟩ | ⟨n2, t, s2, hG, w2⟩
    · rcases w with ⟨-, w⟩ | ⟨n1, -⟩
      · rw [w, w2]
      · exact absurd n1 n2
    · rcases w with ⟨n1, -⟩ | ⟨-, w⟩
      · exact absurd n2 n1
      · rcases ways_ag (lv_at_x h hE hn hh r n2.1 n2.2) (fl_0 w20.1) (fl_0 w20.2) w hG with ⟨a1, a2⟩ | ⟨a1, a2, a3, a4⟩
        · rcases w2 with ⟨-, w2⟩ | ⟨q, -⟩
          · rw [a2, w2]
          · rw [a1] at q
            exact absurd q (by decide)
        · rcases w2 with ⟨q, -⟩ | ⟨-, w2⟩
          · rw [a1] at q
            exact absurd q (by decide)
          · rw [a3, w2]
theorem ce9_difference {σ : SI} {τ : SL} {xa ya hr v : Int32} {xq yq : Nat} {u : SI × SL} (w : po3_X9_difference σ τ xa xq ya yq hr v u) : po_X9_difference σ τ xa xq ya yq hr v u := w.1
theorem ce9_along {σ : SI} {τ : SL} {xa ya hr v : Int32} {xq yq : Nat} {u : SI × SL} (w : po3_X9_along σ τ xa xq ya yq hr v u) : po_X9_along σ τ xa xq ya yq hr v u := w.1
theorem ce10_difference {σ : SI} {τ : SL} {xa ya hr v : Int32} {xq yq hq : Nat} {u : SI × SL} (w : po3_X10_difference σ τ xa xq ya yq hr hq v u) : po_X10_difference σ τ xa xq ya yq hr hq v u := w.1
theorem ce10_along {σ : SI} {τ : SL} {xa ya hr v : Int32} {xq yq hq : Nat} {u : SI × SL} (w : po3_X10_along σ τ xa xq ya yq hr hq v u) : po_X10_along σ τ xa xq ya yq hr hq v u := ⟨w.1, w.2.1⟩
