theorem aov_X0 : Cond.arrayOver (.object RX0) ∈ lw_tbl := tbi1 (i := 29) rfl
theorem aov_X4 : Cond.arrayOver (.object RX4) ∈ lw_tbl := tbi1 (i := 31) rfl
theorem aov_int : Cond.arrayOver (.array .int) ∈ lw_tbl := tbi1 (i := 143) rfl
theorem zfree {a b q z : Nat} (h : z ≤ a) (h2 : z ≤ b) (hq : q = a ∨ b ≤ q) : z ≤ q := by omega
set_option maxHeartbeats 4000000 in
set_option maxRecDepth 100000 in
theorem whole_start {p : Program} {e : Env} {s : State} {m : MethodId} {below : List Frame} {meth : Method} {c : Code} (l : Launch) {b L : Nat} {xs : Nat → Int32} (hL : L ≤ 2560) (C0 : lw_At p s m meth c b L xs) : W p l e room_1 s m #[Value.ref b] below meth c s.heap [] 0 0 (lw_Z below #[Value.ref b] s) (entryFrame m ([Value.ref b] : List Value).toArray 4) := by
  obtain ⟨hx, hb, hr, hml, hown, hts, hX, hbl, hlocks, hgv⟩ := id C0
  have htb : ∀ w ∈ TB, w.before #[Value.ref b] s = true := fun w hw => hts w (TB_in hw)
  obtain ⟨c0, iS0, hK0⟩ := u_known (C := RX0) (T := TX0) (N := 12) (n := 12) htb uin_X0 (htb _ TB_X0)
  obtain ⟨c1, iS1, hK1⟩ := u_known (C := RX1) (T := TX1) (N := 7) (n := 7) htb uin_X1 (htb _ TB_X1)
  obtain ⟨c2, iS2, hK2⟩ := u_known (C := RX2) (T := TX2) (N := 7) (n := 7) htb uin_X2 (htb _ TB_X2)
  obtain ⟨c3, iS3, hK3⟩ := u_known (C := RX3) (T := TX3) (N := 5) (n := 5) htb uin_X3 (htb _ TB_X3)
  obtain ⟨c4, iS4, hK4⟩ := u_known (C := RX4) (T := TX4) (N := 6) (n := 6) htb uin_X4 (htb _ TB_X4)
  obtain ⟨c5, iS5, hK5⟩ := u_known (C := RX5) (T := TX5) (N := 3) (n := 3) htb uin_X5 (htb _ TB_X5)
  obtain ⟨c6, iS6, hK6⟩ := u_known (C := RX6) (T := TX6) (N := 4) (n := 4) htb uin_X6 (htb _ TB_X6)
  obtain ⟨c7, iS7, hK7⟩ := u_known (C := RX7) (T := TX7) (N := 2) (n := 2) htb uin_X7 (htb _ TB_X7)
  obtain ⟨c8, iS8, hK8⟩ := u_known (C := RX8) (T := TX8) (N := 7) (n := 7) htb uin_X8 (htb _ TB_X8)
  obtain ⟨c9, iS9, hK9⟩ := u_known (C := RX9) (T := TX9) (N := 13) (n := 13) htb uin_X9 (htb _ TB_X9)
  obtain ⟨c10, iS10, hK10⟩ := u_known (C := RX10) (T := TX10) (N := 49) (n := 49) htb uin_X10 (htb _ TB_X10)
  obtain ⟨dC, dI, hKc⟩ : ∃ (dC : Nat → ClassId) (dI : Nat → Nat → Nat), ∀ (k : Nat) (q : vw_C), vwCl[k]? = some q → u_Kn s q.1 q.2.1 q.2.2 (dC k) (dI k) := by
    refine ⟨fun k => match k with | 0 => c0 | 1 => c1 | 2 => c2 | 3 => c3 | 4 => c4 | 5 => c5 | 6 => c6 | 7 => c7 | 8 => c8 | 9 => c9 | _ => c10, fun k => match k with | 0 => iS0 | 1 => iS1 | 2 => iS2 | 3 => iS3 | 4 => iS4 | 5 => iS5 | 6 => iS6 | 7 => iS7 | 8 => iS8 | 9 => iS9 | _ => iS10, ?_⟩
    intro k q hq
    match k, hq with
    | 0, hq => cases hq; exact hK0
    | 1, hq => cases hq; exact hK1
    | 2, hq => cases hq; exact hK2
    | 3, hq => cases hq; exact hK3
    | 4, hq => cases hq; exact hK4
    | 5, hq => cases hq; exact hK5
    | 6, hq => cases hq; exact hK6
    | 7, hq => cases hq; exact hK7
    | 8, hq => cases hq; exact hK8
    | 9, hq => cases hq; exact hK9
    | 10, hq => cases hq; exact hK10
    | k + 11, hq => simp [vwCl] at hq
  obtain ⟨a0, kA0, m0, f0, g0, d0⟩ := Cond.arrayClass_spec (htb _ TA_int)
  obtain ⟨a1, kA1, m1, f1, g1, d1⟩ := Cond.arrayClass_spec (htb _ TA_boolean)
  obtain ⟨m2, a2, kA2, h2, -, g2, d2, f2⟩ := Cond.arrayOver_spec (hts _ aov_X0)
  obtain ⟨m3, a3, kA3, h3, -, g3, d3, f3⟩ := Cond.arrayOver_spec (hts _ aov_X4)
  obtain ⟨m4, a4, kA4, h4, -, g4, d4, f4⟩ := arrayOverA_spec (hts _ aov_int)
  obtain ⟨cA, hA0, hA1, hA2, hA3, hA4⟩ : ∃ cA : Nat → ClassId, cA 0 = a0 ∧ cA 1 = a1 ∧ cA 2 = a2 ∧ cA 3 = a3 ∧ cA 4 = a4 := ⟨fun k => match k with | 0 => a0 | 1 => a1 | 2 => a2 | 3 => a3 | _ => a4, rfl, rfl, rfl, rfl, rfl⟩
  subst hA0
  subst hA1
  subst hA2
  subst hA3
  subst hA4
  have hKA : ∀ (k : Nat) (q : ClassId × FieldType), (tysG (GB (dC, dI) s.heap.size cA))[k]? = some q → ArrOfT s q.1 q.2 ∧ va_RA s q.1 q.2 := by
    intro k q hq
    match k, hq with
    | 0, hq => cases hq; exact ⟨fun n z => ⟨fun k h => (by cases h), kA0, g0, m0, d0⟩, f0⟩
    | 1, hq => cases hq; exact ⟨fun n z => ⟨fun k h => (by cases h), kA1, g1, m1, d1⟩, f1⟩
    | 2, hq => cases hq; exact ⟨fun n z => ⟨fun k h => (by cases h), kA2, g2, m2, d2⟩, kA2, m2, g2, d2, h2, f2⟩
    | 3, hq => cases hq; exact ⟨fun n z => ⟨fun k h => (by cases h), kA3, g3, m3, d3⟩, kA3, m3, g3, d3, h3, f3⟩
    | 4, hq => cases hq; exact ⟨fun n z => ⟨fun k h => (by cases h), kA4, g4, m4, d4⟩, f4⟩
    | k + 5, hq => simp [tysG] at hq
  have hK : KU (GB (dC, dI) s.heap.size cA) s := ⟨⟨hKc, hKA⟩, ⟨va_Nw.of rfl (hts _ nst_X5_30), va_Nw.of rfl (hts _ nst_X9_25), va_Nw.of rfl (hts _ nst_X2_11), va_Nw.of rfl (hts _ nst_X5_35), va_Nw.of rfl (hts _ nst_X5_39), va_Nw.of rfl (hts _ nst_X2_84), va_Nw.of rfl (hts _ nst_X1_134)⟩⟩
  have hAO : AOK s := ⟨va_AO.of (hts _ aov_X0), va_AO.of (hts _ aov_X4), over_moved (Vm.Alike.refl _) (hts _ aov_int)⟩
  have hC : Cx p s m #[Value.ref b] meth c cL_law 4 RL ret := ⟨hx, hb, hml, hown, htb, hlocks, hr⟩
  have hS : va_S (fun q : Nat => s.heap.size ≤ q) s.heap s.heap [] := va_S.rf
  have hl := lv_entry ([.ref b]) (n := 4) (Nat.le_of_ble_eq_true rfl)
  rw [lg_entry_eq]
  generalize (lg_sl ([.ref b]) ++ List.replicate (4 - (lg_sl ([.ref b])).length) Slot.unset).toArray = ls at hl ⊢
  have hl : lv_has ls 4 [(0, .ref b)] := hl
  refine knew (ci := 9) (h := s.heap.size) hC hK hS rfl rfl uin_X9 tyX9 tyX9_ok TL_L_7 TB_X9 TN_X9 (Nat.le_of_ble_eq_true rfl) (Nat.le_of_ble_eq_true rfl) dL_law_0 (fun H hN zN oN hS => ?_)
  refine lv_dup hx hb dL_law_3 rfl ?_
  refine kinit (As := []) (rest := [.ref s.heap.size]) (h := s.heap.size + 1) hC hl.1 hS zN hK hAO (i_X9 l (GB (dC, dI) s.heap.size cA) s.heap.size (s.heap.size + 1) (fun k => defaultValue (tyX9 k))) (kcb hC.ts TC_X9_init TN_X9 TM_L_9 hd_X9_init ⟨Nat.le_of_ble_eq_true rfl, Nat.le_of_ble_eq_true rfl⟩) rfl TI_X9_init ⟨by omega, hN⟩ rfl rfl (Nat.le_of_ble_eq_true rfl) dL_law_4 ⟨Nat.le_of_ble_eq_true rfl, Nat.le_of_ble_eq_true rfl⟩ (fun q hq => zfree (z := s.heap.size) (by omega) (by omega) hq) (fun H locs hQ oN hS => ?_)
  obtain ⟨hz, h9⟩ := hQ
  have hz : H.size = s.heap.size + 131 := by omega
  refine lv_astore_n (lv' := [(1, .ref s.heap.size), (0, .ref b)]) hx hb dL_law_7 rfl hl (by decide) rfl (fun ls hl => ?_)
  refine knew (ci := 10) (h := s.heap.size + 131) hC hK hS hz rfl uin_X10 tyX10 tyX10_ok TL_L_10 TB_X10 TN_X10 (Nat.le_of_ble_eq_true rfl) (Nat.le_of_ble_eq_true rfl) dL_law_8 (fun H hN zN oN hS => ?_)
  replace h9 := DX9.kept h9 (fun q hq => oN q (by omega))
  have hz : H.size = s.heap.size + 132 := by omega
  refine lv_dup hx hb dL_law_11 rfl ?_
  refine kinit (As := []) (rest := [.ref (s.heap.size + 131)]) (h := s.heap.size + 132) hC hl.1 hS hz hK hAO (i_X10 l (GB (dC, dI) s.heap.size cA) (s.heap.size + 131) (s.heap.size + 132)) (kcb hC.ts TC_X10_init TN_X10 TM_L_12 hd_X10_init ⟨Nat.le_of_ble_eq_true rfl, Nat.le_of_ble_eq_true rfl⟩) rfl TI_X10_init ⟨by omega, hN⟩ rfl rfl (Nat.le_of_ble_eq_true rfl) dL_law_12 ⟨Nat.le_of_ble_eq_true rfl, Nat.le_of_ble_eq_true rfl⟩ (fun q hq => zfree (z := s.heap.size) (by omega) (by omega) hq) (fun H locs hQ oN hS => ?_)
  obtain ⟨hz, h10⟩ := hQ
  replace h9 := DX9.kept h9 (fun q hq => oN q (by omega) (nfree (by omega) (by omega)))
  refine lv_astore_n (lv' := [(2, .ref (s.heap.size + 131)), (1, .ref s.heap.size), (0, .ref b)]) hx hb dL_law_15 rfl hl (by decide) rfl (fun ls hl => ?_)
  refine lv_iconst (v := 0) hx hb dL_law_16 (by decide) ?_
  refine lv_istore_n (lv' := [(3, .int (0 : Int32)), (2, .ref (s.heap.size + 131)), (1, .ref s.heap.size), (0, .ref b)]) hx hb dL_law_17 rfl hl (by decide) rfl (fun ls hl => ?_)
  refine W.widen (k := 600000) (n := 7302250) (Nat.le_of_ble_eq_true rfl) (Nat.le_of_ble_eq_true rfl) ?_
  exact law_loop (G := GB (dC, dI) s.heap.size cA) hL C0 hC hK gok (L + 1) 0 (by omega) (Nat.zero_le _) s0 t0 ⟨inv_0, rel_0, en_0, rel6_0⟩ _ _ _ (r40_all h9 h10) hS (lv_sub hl [0, 3, 2, 1] rfl)
