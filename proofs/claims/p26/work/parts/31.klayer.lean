/-! ===== what constructors make: cells by address ===== -/
abbrev KO (G : Gx) (ci N a : Nat) (V : Nat → Value) (H : Heap) : Prop := t_OB a (G.1.1 ci) N (G.1.2 ci) H V
abbrev KI (G : Gx) (a n : Nat) (f : Nat → Int32) (H : Heap) : Prop := H[a]? = some (vp_cell (G.2.2 0) (n, .inl f))
abbrev KZ (G : Gx) (a n : Nat) (f : Nat → Int32) (H : Heap) : Prop := H[a]? = some (vp_cell (G.2.2 1) (n, .inl f))
abbrev KQ (G : Gx) (t a n : Nat) (f : Nat → Option Nat) (H : Heap) : Prop := H[a]? = some (vp_cell (G.2.2 t) (n, .inr (.inr (.inr (.inr f)))))
theorem KO.kept {G : Gx} {ci N a : Nat} {V : Nat → Value} {H H1 : Heap} (h : KO G ci N a V H) (e : H1[a]? = H[a]?) : KO G ci N a V H1 := t_OB.kept h e
theorem kc_kept {a : Nat} {x : Cell} {H H1 : Heap} (h : H[a]? = some x) (e : H1[a]? = H[a]?) : H1[a]? = some x := e.trans h
abbrev rmK (d mc ms : Nat) : Room := { frames := d, cells := mc, slots := ms, locals := 40 * d }
abbrev KM0 (l : Launch) (y : MethodName) (b : ByteArray) (n : Nat) (av : List Value) (d mc ms : Nat) (P : State → Prop) (Qh : Heap → Prop) (free : Addr → Prop) : Prop :=
  Met l y (wsOf y b n none) (rmK d mc ms) (va_Pc av P) (va_Qv (fun _ : Unit => True) (fun _ t => Qh t.heap) free) mc ms free
def AOK (U : State) : Prop := va_AO RX0 U ∧ va_AO RX4 U ∧ (Cond.arrayOver (.array .int)).before #[] U = true
theorem AOK.moved {u U : State} (hvm : u.vm.Alike U.vm) (h : AOK u) : AOK U := ⟨va_AO.moved hvm h.1, va_AO.moved hvm h.2.1, over_moved hvm h.2.2⟩
/-- the start of a constructor: the heap's size, a picture, the tables -/
def KS (G : Gx) (z : Nat) (P : Heap → Prop) (U : State) : Prop := U.heap.size = z ∧ P U.heap ∧ KU G U ∧ AOK U
theorem ks_blind {G : Gx} {z : Nat} {P : Heap → Prop} {av : List Value} : FrameBlind (va_Pc av (KS G z P)) := fun a U g mk q => ⟨q.1, q.2.1, q.2.2.1, q.2.2.2.1.same rfl, AOK.moved (u := U) (U := U.calling g mk a) (Vm.Alike.refl U.vm) q.2.2.2.2⟩
theorem met_ofK {l : Launch} {G : Gx} {d mc ms : Nat} {y : MethodName} {b : ByteArray} {n z : Nat} {av : List Value} {P : Heap → Prop} {Qh : Heap → Prop} {free : Addr → Prop} {own : String} (hy : plainFor y = true) (ho : y.cls = own)
    (lv : List (Nat × Value)) (hlv : lv_args 0 av = lv) (hn : (lg_sl av).length ≤ n)
    (body : ∀ p e s m args below meth c ls, Cx p s m args meth c b n own none → meth.name = y.name → KU G s → AOK s → s.heap.size = z → P s.heap → lv_has ls n lv →
      W p l e (rmK d mc ms) s m args below meth c s.heap [] 0 0 (MQ below (va_Qv (fun _ : Unit => True) (fun _ t => Qh t.heap) free) args s mc ms free) (F0 m 0 ls [])) : KM0 l y b n av d mc ms (KS G z P) Qh free := by
  refine MetFree.of_bodySF (code := b) (maxLocals := n) (ret := none) hy ?_ ?_
  · intro args s m h hm
    obtain ⟨meth, c, h1, h2, h3, h4, h5, h6, -, -⟩ := Cond.code_spec hm (atoms_spec (ws := wsOf y b n none) h _ List.mem_cons_self)
    exact ⟨meth, c, h1, h2, h3, h4, h5, h6⟩
  · intro p e s m args below meth c s₁ B hml hv _
    obtain ⟨rfl, hz, hP, hK, hAO⟩ := hv
    have hts := atoms_spec (ws := wsOf y b n none) B.pre
    have h := body p e s m av.toArray below meth c _ ⟨B.exec, B.bytes, hml, ho ▸ findClass_of_methodNamed B.named, fun w hw => hts w (List.mem_cons_of_mem _ hw), B.notSynchronized, B.returns⟩ (name_of_methodNamed B.named B.method).1 hK hAO hz hP (hlv ▸ lv_entry av hn)
    rw [← lg_entry_eq] at h
    have hh0 : s₁.heap = s.heap := by rw [B.state]; rfl
    obtain ⟨t, a1, o, b1, b2, b3⟩ := h s₁ hh0 (Stand.of_body B)
    exact ⟨t, o, a1, b1, b2, ⟨b3.1, b3.2⟩⟩
section KROWS
variable {p : Program} {l : Launch} {e : Env} {R : Room} {s : State} {m : MethodId} {args : Array Value} {below : List Frame} {meth : Method} {c : Code} {H : Heap} {locs : List Loc} {cells slots : Nat} {Q : State → Prop}
variable {cc : ByteArray} {nL : Nat} {own : String} {ret : Option FieldType} {pc : Nat} {ls : Array Slot} {rest : List Value} {G : Gx} {A : Nat → Prop} {H0 : Heap} {h : Nat}
theorem kobj (hC : Cx p s m args meth c cc nL own ret) (hls : ls.size = nL) {idx a : Nat} (hl : Cond.methodLink own idx objectInit ∈ TB) (hi : Cond.instanceMethod objectInit ∈ TB) (hc2 : Cond.code objectInit ⟨#[0xb1]⟩ 1 none ∈ TB) (hdg : decode cc pc = .ok (.invokespecial idx, 3)) (hf : 1 ≤ R.frames) (hlo : 20 ≤ R.locals)
    (kk : W p l e R s m args below meth c H locs cells slots Q (F0 m (pc + 3) ls [])) : W p l e R s m args below meth c H locs cells slots Q (F0 m pc ls [.ref a]) :=
  W.objInit hC.x hC.b hC.ow (hC.ts _ hl) (hC.ts _ hi) (hC.ts _ hc2) rfl (by rw [hC.ml]; exact hls) rfl hdg hf (by show 2 * 0 + 0 + 12 ≤ _; omega) (W.eq (g2 := F0 m (pc + 3) ls []) rfl kk)
theorem kS_push {H1 : Heap} (hS : va_S A H0 H locs) (z1 : H1.size = H.size + 1) (o1 : ∀ q, q < H.size → H1[q]? = H[q]?) : va_S A H0 H1 locs :=
  ⟨Nat.le_trans hS.1 (by omega), fun x h1 h2 => (o1 x (Nat.lt_of_lt_of_le h1 hS.1)).trans (hS.2.1 x h1 h2), hS.2.2⟩
/-- a field is written, not final -/
theorem kput (hC : Cx p s m args meth c cc nL own ret) (hK : KU G s) (hS0 : va_S A H0 H locs) {a : Nat} (hA : A a) {C : String} {T : u_T} {N ci index : Nat} {V : Nat → Value} (hO : KO G ci N a V H) (hc : vwCl[ci]? = some (C, T, N)) (hin : ∀ w ∈ u_ws C T N, w ∈ TB)
    (ty0 : Nat → FieldType) (hty : ∀ k, k < N → parseFieldDescriptor (T k).2.2.1 = some (ty0 k)) (hnm : ∀ a, a < N → ∀ b, b < N → a ≠ b → (T a).2.1 ≠ (T b).2.1) (j : Nat) (hj : j < N)
    (hl : Cond.fieldLink own index (T j).1 (T j).2.1 (T j).2.2.1 ∈ TB) (hfin : (T j).2.2.2 = false) {v : Value} (hn : narrow (ty0 j) v = v) (hfit : fits (ty0 j) v = true) (hdg : decode cc pc = .ok (.putfield index, 3))
    (kk : ∀ (H1 : Heap) (locs1 : List Loc), KO G ci N a (updV V j v) H1 → H1.size = H.size → (∀ q, q ≠ a → H1[q]? = H[q]?) → va_S A H0 H1 locs1 → W p l e R s m args below meth c H1 locs1 cells slots Q (F0 m (pc + 3) ls rest)) : W p l e R s m args below meth c H locs cells slots Q (F0 m pc ls (v :: .ref a :: rest)) := by
  have hap := va_apart (own := own) hC.ts hin ty0 hty hnm hK.1 hc
  obtain ⟨cell, q1, q2, q3, q4⟩ := hO
  obtain ⟨hS, hfc, kC, hkC, hkind⟩ := hK.1.1 ci _ hc
  obtain ⟨cf, kf, fi, f, hi, hsl⟩ := hS j hj
  have hlay := hC.ts _ (hin _ (u_in_lay hj))
  unfold u_lay at hlay
  rw [if_neg (by rw [hfin]; decide)] at hlay
  have hst := (u_facts hfc hkC (u_lays hC.ts hin hj) hi).1
  have h6 := u_store hfc hkC hkind hlay hi (hty j hj) hn hfit
  refine W.putK hC.x hC.b (f := f) ⟨hC.ow, hC.ts _ hl, ⟨_, _, _, hi⟩, hst⟩ (by rw [q2]; exact h6) q1 q3 (by rw [hsl]; exact k2_hasslot (q4 j hj)) rfl rfl hdg fun H' e1 e2 e3 => ?_
  rw [hsl] at e1 ⊢
  exact kk H' _ ⟨_, e1, q2, q3, t_set q4 hap hj v⟩ e2 e3 (hS0.put e2 e3 hA)
/-- a final field is written, in its class's constructor -/
theorem kputF (hC : Cx p s m args meth c cc nL own ret) (hni : meth.name = "<init>") (hK : KU G s) (hS0 : va_S A H0 H locs) {a : Nat} (hA : A a) {C : String} {T : u_T} {N ci index : Nat} {V : Nat → Value} (hO : KO G ci N a V H) (hc : vwCl[ci]? = some (C, T, N)) (hin : ∀ w ∈ u_ws C T N, w ∈ TB)
    (ty0 : Nat → FieldType) (hty : ∀ k, k < N → parseFieldDescriptor (T k).2.2.1 = some (ty0 k)) (hnm : ∀ a, a < N → ∀ b, b < N → a ≠ b → (T a).2.1 ≠ (T b).2.1) (j : Nat) (hj : j < N)
    (hl : Cond.fieldLink own index (T j).1 (T j).2.1 (T j).2.2.1 ∈ TB) (hfin : (T j).2.2.2 = true) (hdecl : (T j).1 = own) {v : Value} (hn : narrow (ty0 j) v = v) (hfit : fits (ty0 j) v = true) (hdg : decode cc pc = .ok (.putfield index, 3))
    (kk : ∀ (H1 : Heap) (locs1 : List Loc), KO G ci N a (updV V j v) H1 → H1.size = H.size → (∀ q, q ≠ a → H1[q]? = H[q]?) → va_S A H0 H1 locs1 → W p l e R s m args below meth c H1 locs1 cells slots Q (F0 m (pc + 3) ls rest)) : W p l e R s m args below meth c H locs cells slots Q (F0 m pc ls (v :: .ref a :: rest)) := by
  have hap := va_apart (own := own) hC.ts hin ty0 hty hnm hK.1 hc
  obtain ⟨cell, q1, q2, q3, q4⟩ := hO
  obtain ⟨hS, hfc, kC, hkC, hkind⟩ := hK.1.1 ci _ hc
  obtain ⟨cf, kf, fi, f, hi, hsl⟩ := hS j hj
  have hlay := hC.ts _ (hin _ (u_in_lay hj))
  unfold u_lay at hlay
  rw [if_pos hfin] at hlay
  have hst := (u_facts hfc hkC (u_lays hC.ts hin hj) hi).1
  have hcf : m.cls = cf := by
    obtain ⟨_, _, c', _, _, _, -, -, hf', -, -, -, hown2, -⟩ := Cond.laysFinal_spec hlay
    have e1 : c' = cf := by have := hi.symm.trans hf'; simp at this; exact this.1.symm
    rw [hdecl] at hown2
    rw [← e1]; exact Option.some.inj (hC.ow.symm.trans hown2)
  have h6 := u_fits hfc hkC hkind (Or.inr hlay) hi (hty j hj) hn hfit
  refine W.putFinK hC.x hC.b hC.ow (hC.ts _ hl) hi hst hcf hni (by rw [q2]; exact h6) q1 q3 (by rw [hsl]; exact k2_hasslot (q4 j hj)) rfl rfl hdg fun H' e1 e2 e3 => ?_
  rw [hsl] at e1 ⊢
  exact kk H' _ ⟨_, e1, q2, q3, t_set q4 hap hj v⟩ e2 e3 (hS0.put e2 e3 hA)
theorem kget (hC : Cx p s m args meth c cc nL own ret) (hK : KU G s) {a : Nat} {C : String} {T : u_T} {N ci index : Nat} {V : Nat → Value} (hO : KO G ci N a V H) (hc : vwCl[ci]? = some (C, T, N)) (hin : ∀ w ∈ u_ws C T N, w ∈ TB) (j : Nat) (hj : j < N)
    (hl : Cond.fieldLink own index (T j).1 (T j).2.1 (T j).2.2.1 ∈ TB) {v : Value} (hv : V j = v) (hdg : decode cc pc = .ok (.getfield index, 3))
    (kk : W p l e R s m args below meth c H locs cells slots Q (F0 m (pc + 3) ls (v :: rest))) : W p l e R s m args below meth c H locs cells slots Q (F0 m pc ls (.ref a :: rest)) := by
  subst hv
  refine va_get (D := G.1) (cl := vwCl) (ws := [(a, .inr (ci, (List.range N).map V))]) hC.x hC.b hC.ts hin hC.ow hK.1 (fun i q hq => ?_) 0 rfl hc j hj (hC.ts _ hl) (fun _ h => h) (by simp [hj]) hdg kk
  match i, hq with
  | 0, hq => cases hq; exact ⟨_, hc, hO.to (fun k hk => by simp [vp_V, hk])⟩
  | i + 1, hq => simp at hq
/-- a new object -/
theorem knew (hC : Cx p s m args meth c cc nL own ret) (hK : KU G s) (hS : va_S A H0 H locs) (hh : H.size = h) {C : String} {T : u_T} {N ci index : Nat} (hc : vwCl[ci]? = some (C, T, N)) (hin : ∀ w ∈ u_ws C T N, w ∈ TB) (ty0 : Nat → FieldType) (hty : ∀ k, k < N → parseFieldDescriptor (T k).2.2.1 = some (ty0 k))
    (hl : Cond.classLink own index C ∈ TB) (hinst : Cond.instantiable C N ∈ TB) (hini : Cond.initialized C ∈ TB) (hcells : cells + 1 ≤ R.cells) (hslots : slots + N ≤ R.slots) (hdg : decode cc pc = .ok (.new index, 3))
    (kk : ∀ (H1 : Heap), KO G ci N h (fun k => defaultValue (ty0 k)) H1 → H1.size = H.size + 1 → (∀ q, q < H.size → H1[q]? = H[q]?) → va_S A H0 H1 locs → W p l e R s m args below meth c H1 locs (cells + 1) (slots + N) Q (F0 m (pc + 3) ls (.ref h :: rest))) : W p l e R s m args below meth c H locs cells slots Q (F0 m pc ls rest) := by
  subst hh
  have hKn := hK.1.1 ci _ hc
  refine W.newcK hC.x hC.b hC.ow (hC.ts _ hl) (hC.ts _ hinst) (hC.ts _ hini) rfl hdg hcells hslots hKn.2.1 rfl fun H1 kC hkC e1 z1 o1 => ?_
  exact kk H1 (u_born ty0 hC.ts hin hKn hkC e1 hty) z1 o1 (kS_push hS z1 o1)
theorem knewi (hC : Cx p s m args meth c cc nL own ret) (hK : KU G s) (hS : va_S A H0 H locs) (hh : H.size = h) {n : Int32} {N : Nat} (hn : ¬ n < 0) (hN : n.toNatClampNeg = N) (hb4 : N * 4 ≤ 536870912) (hcells : cells + 1 ≤ R.cells) (hslots : slots + N ≤ R.slots) (hdg : decode cc pc = .ok (.newarray .int, 2))
    (kk : ∀ (H1 : Heap), KI G h N (fun _ => 0) H1 → H1.size = H.size + 1 → (∀ q, q < H.size → H1[q]? = H[q]?) → va_S A H0 H1 locs → W p l e R s m args below meth c H1 locs (cells + 1) (slots + N) Q (F0 m (pc + 2) ls (.ref h :: rest))) : W p l e R s m args below meth c H locs cells slots Q (F0 m pc ls (.int n :: rest)) := by
  refine va_newaK (atype := .int) hC.x hC.b (hC.ts _ TA_int) rfl hdg rfl hn hN hb4 hcells hslots hh fun H1 cA e1 z1 o1 hAr hNm => ?_
  subst hh
  have e2 : cA = G.2.2 0 := Option.some.inj (hNm.symm.trans (hK.1.2 0 _ rfl).2)
  subst e2
  exact kk H1 e1 z1 o1 (kS_push hS z1 o1)
theorem knewz (hC : Cx p s m args meth c cc nL own ret) (hK : KU G s) (hS : va_S A H0 H locs) (hh : H.size = h) {n : Int32} {N : Nat} (hn : ¬ n < 0) (hN : n.toNatClampNeg = N) (hb4 : N * 1 ≤ 536870912) (hcells : cells + 1 ≤ R.cells) (hslots : slots + N ≤ R.slots) (hdg : decode cc pc = .ok (.newarray .boolean, 2))
    (kk : ∀ (H1 : Heap), KZ G h N (fun _ => 0) H1 → H1.size = H.size + 1 → (∀ q, q < H.size → H1[q]? = H[q]?) → va_S A H0 H1 locs → W p l e R s m args below meth c H1 locs (cells + 1) (slots + N) Q (F0 m (pc + 2) ls (.ref h :: rest))) : W p l e R s m args below meth c H locs cells slots Q (F0 m pc ls (.int n :: rest)) := by
  refine va_newaK (atype := .boolean) hC.x hC.b (hC.ts _ TA_boolean) rfl hdg rfl hn hN hb4 hcells hslots hh fun H1 cA e1 z1 o1 hAr hNm => ?_
  subst hh
  have e2 : cA = G.2.2 1 := Option.some.inj (hNm.symm.trans (hK.1.2 1 _ rfl).2)
  subst e2
  exact kk H1 e1 z1 o1 (kS_push hS z1 o1)
/-- a new array of clocks or of links -/
theorem knewq (hC : Cx p s m args meth c cc nL own ret) (hK : KU G s) (hS : va_S A H0 H locs) (hh : H.size = h) {t index : Nat} {C : String} (ht : (tysG G)[t]? = some (G.2.2 t, .object C)) (hl : Cond.classLink own index C ∈ TB) (hov : va_AO C s) {n : Int32} {N : Nat} (hn : ¬ n < 0) (hN : n.toNatClampNeg = N) (hb4 : N * 4 ≤ 536870912) (hcells : cells + 1 ≤ R.cells) (hslots : slots + N ≤ R.slots) (hdg : decode cc pc = .ok (.anewarray index, 3))
    (kk : ∀ (H1 : Heap), KQ G t h N (fun _ => none) H1 → H1.size = H.size + 1 → (∀ q, q < H.size → H1[q]? = H[q]?) → va_S A H0 H1 locs → W p l e R s m args below meth c H1 locs (cells + 1) (slots + N) Q (F0 m (pc + 3) ls (.ref h :: rest))) : W p l e R s m args below meth c H locs cells slots Q (F0 m pc ls (.int n :: rest)) := by
  subst hN
  subst hh
  refine W.anew hC.x hC.b hC.ow (hC.ts _ hl) (va_AO.use hov) rfl hdg rfl hn hb4 hcells hslots fun cA kA comp f1 f2 f3 f4 => ?_
  obtain ⟨kA', comp', -, -, -, g4⟩ := (hK.1.2 t _ ht).2
  have e2 : cA = G.2.2 t := Option.some.inj (f1.symm.trans g4)
  subst e2
  have z1 : (H.push ({ cls := G.2.2 t, slots := Array.replicate n.toNatClampNeg .null, vm := .none } : Cell)).size = H.size + 1 := Array.size_push ..
  have o1 : ∀ q : Nat, q < H.size → (H.push ({ cls := G.2.2 t, slots := Array.replicate n.toNatClampNeg .null, vm := .none } : Cell))[q]? = H[q]? := fun q hq => by rw [Array.getElem?_push, if_neg (Nat.ne_of_lt hq)]
  refine kk _ ?_ z1 o1 (kS_push hS z1 o1)
  show (H.push _)[H.size]? = some (vp_cell _ _)
  rw [Array.getElem?_push_size, vp_cell_q, arrV_new]
  rfl
/-- new int[x][y] -/
theorem knewm (hC : Cx p s m args meth c cc nL own ret) (hK : KU G s) (hS : va_S A H0 H locs) (hh : H.size = h) (hA : A h) {index : Nat} (hl : Cond.classLink own index "[[I" ∈ TB) (hov : (Cond.arrayOver (.array .int)).before #[] s = true) {n n0 : Int32} {x y : Nat} (hn : ¬ n < 0) (hy : n.toNatClampNeg = y) (hn0 : ¬ n0 < 0) (hx : n0.toNatClampNeg = x) (hby : y * 4 ≤ 536870912) (hbx : x * 4 ≤ 536870912) (hcells : cells + (1 + x) ≤ R.cells) (hslots : slots + (x + x * y) ≤ R.slots) (hdg : decode cc pc = .ok (.multianewarray index 2, 4))
    (kk : ∀ (H1 : Heap) (locs1 : List Loc), KQ G 4 h x (fun i => if i < x then some (h + 1 + i) else none) H1 → (∀ i, i < x → KI G (h + 1 + i) y (fun _ => 0) H1) → H1.size = H.size + 1 + x → (∀ q, q < H.size → H1[q]? = H[q]?) → va_S A H0 H1 locs1 → W p l e R s m args below meth c H1 locs1 (cells + 1 + x) (slots + x + x * y) Q (F0 m (pc + 4) ls (.ref h :: rest))) : W p l e R s m args below meth c H locs cells slots Q (F0 m pc ls (.int n :: .int n0 :: rest)) := by
  subst hh
  refine mu_row hC.x hC.b hC.ow (hC.ts _ hl) (over_moved (Vm.Alike.refl _) hov) (hC.ts _ TA_int) hn hy hn0 hx hby hbx hcells hslots hdg fun H1 cA cI k1 k2 k3 k4 z1 o1 => ?_
  have e1 : cA = G.2.2 4 := Option.some.inj (k1.symm.trans (hK.1.2 4 _ rfl).2)
  have e2 : cI = G.2.2 0 := Option.some.inj (k2.symm.trans (hK.1.2 0 _ rfl).2)
  subst e1
  subst e2
  refine kk H1 _ ?_ (fun i hi => k4 i hi) z1 o1 ⟨Nat.le_trans hS.1 (by omega), fun x h1 h2 => (o1 x (Nat.lt_of_lt_of_le h1 hS.1)).trans (hS.2.1 x h1 h2), fun q hq => ?_⟩
  · show H1[H.size]? = some (vp_cell _ _)
    rw [k3, vp_cell_q]
    congr 2
    funext i
    split <;> rfl
  · rcases List.mem_append.mp hq with h1 | h1
    · exact hS.2.2 q h1
    · rw [muL_base _ q h1]
      exact hA
theorem kiast (hC : Cx p s m args meth c cc nL own ret) (hK : KU G s) (hS0 : va_S A H0 H locs) {a n : Nat} (hA : A a) {f : Nat → Int32} (hI : KI G a n f H) {i x : Int32} (hin : vp_in i n) (hdg : decode cc pc = .ok (.iastore, 1))
    (kk : ∀ (H1 : Heap) (locs1 : List Loc), KI G a n (fun q => if q = i.toNatClampNeg then x else f q) H1 → H1.size = H.size → (∀ q, q ≠ a → H1[q]? = H[q]?) → va_S A H0 H1 locs1 → W p l e R s m args below meth c H1 locs1 cells slots Q (F0 m (pc + 1) ls rest)) : W p l e R s m args below meth c H locs cells slots Q (F0 m pc ls (.int x :: .int i :: .ref a :: rest)) := by
  have hcell : H[a]? = some (vp_cell (G.2.2 0) (n, .inl f)) := hI
  rw [vp_cell_i] at hcell
  refine W.iast hC.x hC.b hcell ((hK.1.2 0 _ rfl).1 n (fun j => .int (f j))) (fun q => by cases q) (by rw [arrV_size]; exact hin) rfl rfl hdg fun H1 e1 z oq => ?_
  refine kk H1 _ ?_ z oq (hS0.put z oq hA)
  show H1[a]? = some (vp_cell _ _)
  rw [e1, vp_cell_i, arrV_store]
  congr 2
  funext q
  by_cases hq : q = i.toNatClampNeg
  · subst hq
    simp [updV]
  · simp [updV, hq]
theorem kqald (hC : Cx p s m args meth c cc nL own ret) (hK : KU G s) {t a n : Nat} {ty : FieldType} (ht : (tysG G)[t]? = some (G.2.2 t, ty)) (hr : ty.isReference = true) {f : Nat → Option Nat} (hI : KQ G t a n f H) {i : Int32} (hin : vp_in i n) {v : Value} (hv : va_rf (f i.toNatClampNeg) = v) (hdg : decode cc pc = .ok (.aaload, 1))
    (kk : W p l e R s m args below meth c H locs cells slots Q (F0 m (pc + 1) ls (v :: rest))) : W p l e R s m args below meth c H locs cells slots Q (F0 m pc ls (.int i :: .ref a :: rest)) := by
  subst hv
  have hlt : i.toNatClampNeg < n := Nat.not_le.mp fun q => hin (Or.inr q)
  have hcell : H[a]? = some (vp_cell (G.2.2 t) (n, .inr (.inr (.inr (.inr f))))) := hI
  rw [vp_cell_q] at hcell
  exact W.aald (v := va_rf (f i.toNatClampNeg)) (ty := ty) hC.x hC.b hcell ((hK.1.2 t _ ht).1 n (fun j => va_rf (f j))) hr (fun q => by cases q) (by rw [arrV_size]; exact hin) (by rw [arrV_read _ _ hlt]) rfl rfl hdg kk
theorem kqast (hC : Cx p s m args meth c cc nL own ret) (hK : KU G s) (hS0 : va_S A H0 H locs) {t a n v : Nat} {C : String} {T : u_T} {N ci : Nat} {V : Nat → Value} (hA : A a) (ht : (tysG G)[t]? = some (G.2.2 t, .object C)) (hc : vwCl[ci]? = some (C, T, N)) {f : Nat → Option Nat} (hI : KQ G t a n f H) (hO : KO G ci N v V H) {i : Int32} (hin : vp_in i n) (hdg : decode cc pc = .ok (.aastore, 1))
    (kk : ∀ (H1 : Heap) (locs1 : List Loc), KQ G t a n (fun q => if q = i.toNatClampNeg then some v else f q) H1 → H1.size = H.size → (∀ q, q ≠ a → H1[q]? = H[q]?) → va_S A H0 H1 locs1 → W p l e R s m args below meth c H1 locs1 cells slots Q (F0 m (pc + 1) ls rest)) : W p l e R s m args below meth c H locs cells slots Q (F0 m pc ls (.ref v :: .int i :: .ref a :: rest)) := by
  have hlt : i.toNatClampNeg < n := Nat.not_le.mp fun q => hin (Or.inr q)
  have h0 : ¬ i < 0 := fun q => hin (Or.inl q)
  obtain ⟨cellV, g1, g2, g3, -⟩ := hO
  have hcls := (hK.1.1 ci _ hc).2
  obtain ⟨kA, comp, k1, k2, k3, -⟩ := (hK.1.2 t _ ht).2
  have hcomp : comp = G.1.1 ci := Option.some.inj (k3.symm.trans hcls.1)
  subst hcomp
  obtain ⟨kC, hkC, -⟩ := hcls.2
  have hcell : H[a]? = some (vp_cell (G.2.2 t) (n, .inr (.inr (.inr (.inr f))))) := hI
  refine W.aast hC.x hC.b hcell (fun q h => by cases h) (fun h => by cases h) k1 k2 rfl hkC ⟨h0, by show _ < (arrV _ _ _).slots.size; rw [arrV_size]; exact hlt⟩ g1 (fun q h => by rw [g3] at h; cases h) (by rw [g2]; exact hkC) (by rw [g2]; exact va_assign hcls) rfl rfl hdg fun H1 e1 z oq => ?_
  refine kk H1 _ ?_ z oq (hS0.put z oq hA)
  show H1[a]? = some (vp_cell _ _)
  rw [e1, vp_cell_q, vp_cell_q, arrV_store]
  congr 2
  funext q
  by_cases hq : q = i.toNatClampNeg
  · subst hq
    simp [updV, va_rf]
  · simp [updV, hq]
/-- a constructor is called -/
theorem kinit (hC : Cx p s m args meth c cc nL own ret) (hls : ls.size = nL) (hS : va_S A H0 H locs) (hh : H.size = h) (hK : KU G s) (hAO : AOK s) {y : MethodName} {b : ByteArray} {maxL n d mc ms index a : Nat} {As st0 : List Value} {P Qh : Heap → Prop} {free : Addr → Prop}
    (hM : KM0 l y b maxL (.ref a :: As) d mc ms (KS G h P) Qh free) (cb : CallB R s args own index y b maxL none (wsOf y b maxL none) (rmK d mc ms) mc ms n) (hy : y.name = "<init>") (hi : Cond.instanceMethod y ∈ TB) (hP : P H)
    (hn : As.length = n) (hst : st0 = As.reverse ++ .ref a :: rest) (hW : (rest.map fun v => v.category).sum ≤ 8) (hdg : decode cc pc = .ok (.invokespecial index, 3)) (hf : cells + mc ≤ R.cells ∧ slots + ms ≤ R.slots) (hff : ∀ q, free q → A q)
    (kk : ∀ (H1 : Heap) (locs1 : List Loc), Qh H1 → (∀ q, q < H.size → ¬ free q → H1[q]? = H[q]?) → va_S A H0 H1 locs1 → W p l e R s m args below meth c H1 locs1 (cells + mc) (slots + ms) Q (F0 m (pc + 3) ls rest)) : W p l e R s m args below meth c H locs cells slots Q (F0 m pc ls st0) :=
  va_callv (va_runI ⟨hC.x, hC.b, hC.ml, hC.ow, hC.ts⟩ hM ⟨cb, hy, hC.ts _ hi⟩ ⟨ks_blind, fun U hU hW => ⟨rfl, by rw [hU]; exact hh, by rw [hU]; exact hP, hK.moved hW, hAO.moved hW.alike⟩⟩ rfl hn hls hst (lv_room hW) hdg hf) hS (fun q _ => hff q) hff
    (fun u t H1 locs1 ht hvm hw hB hz hk hS1 => kk H1 locs1 (ht ▸ hB) hk hS1)
theorem kinitN (hC : Cx p s m args meth c cc nL own ret) (hls : ls.size = nL) (hS : va_S A H0 H locs) (hh : H.size = h) (hK : KU G s) (hAO : AOK s) {y : MethodName} {b : ByteArray} {maxL n d mc ms index a : Nat} {As st0 : List Value} {P Qh : Heap → Prop} {free : Addr → Prop} {host : String}
    (hM : KM0 l y b maxL (.ref a :: As) d mc ms (KS G h P) Qh free) (cb : va_CN R s args own index y host b maxL none (wsOf y b maxL none) (rmK d mc ms) mc ms n) (hy : y.name = "<init>") (hi : Cond.instanceMethod y ∈ TB) (hP : P H)
    (hn : As.length = n) (hst : st0 = As.reverse ++ .ref a :: rest) (hW : (rest.map fun v => v.category).sum ≤ 8) (hdg : decode cc pc = .ok (.invokespecial index, 3)) (hf : cells + mc ≤ R.cells ∧ slots + ms ≤ R.slots) (hff : ∀ q, free q → A q)
    (kk : ∀ (H1 : Heap) (locs1 : List Loc), Qh H1 → (∀ q, q < H.size → ¬ free q → H1[q]? = H[q]?) → va_S A H0 H1 locs1 → W p l e R s m args below meth c H1 locs1 (cells + mc) (slots + ms) Q (F0 m (pc + 3) ls rest)) : W p l e R s m args below meth c H locs cells slots Q (F0 m pc ls st0) :=
  va_callv (va_runIN ⟨hC.x, hC.b, hC.ml, hC.ow, hC.ts⟩ hM ⟨cb, hy, hC.ts _ hi⟩ ⟨ks_blind, fun U hU hW => ⟨rfl, by rw [hU]; exact hh, by rw [hU]; exact hP, hK.moved hW, hAO.moved hW.alike⟩⟩ rfl hn hls hst (lv_room hW) hdg hf) hS (fun q _ => hff q) hff
    (fun u t H1 locs1 ht hvm hw hB hz hk hS1 => kk H1 locs1 (ht ▸ hB) hk hS1)
theorem kstat (hC : Cx p s m args meth c cc nL own ret) (hls : ls.size = nL) (hS : va_S A H0 H locs) (hh : H.size = h) (hK : KU G s) (hAO : AOK s) {y : MethodName} {b : ByteArray} {maxL n d mc ms index : Nat} {As st0 : List Value} {P Qh : Heap → Prop} {free : Addr → Prop}
    (hM : KM0 l y b maxL As d mc ms (KS G h P) Qh free) (cb : CallB R s args own index y b maxL none (wsOf y b maxL none) (rmK d mc ms) mc ms n) (hi : Cond.static y ∈ TB) (hP : P H)
    (hn : As.length = n) (hst : st0 = As.reverse ++ rest) (hW : (rest.map fun v => v.category).sum ≤ 8) (hdg : decode cc pc = .ok (.invokestatic index, 3)) (hf : cells + mc ≤ R.cells ∧ slots + ms ≤ R.slots) (hff : ∀ q, free q → A q)
    (kk : ∀ (H1 : Heap) (locs1 : List Loc), Qh H1 → (∀ q, q < H.size → ¬ free q → H1[q]? = H[q]?) → va_S A H0 H1 locs1 → W p l e R s m args below meth c H1 locs1 (cells + mc) (slots + ms) Q (F0 m (pc + 3) ls rest)) : W p l e R s m args below meth c H locs cells slots Q (F0 m pc ls st0) :=
  va_callv (va_runS ⟨hC.x, hC.b, hC.ml, hC.ow, hC.ts⟩ hM ⟨cb, hC.ts _ hi⟩ ⟨ks_blind, fun U hU hW => ⟨rfl, by rw [hU]; exact hh, by rw [hU]; exact hP, hK.moved hW, hAO.moved hW.alike⟩⟩ rfl hn hls hst (lv_room hW) hdg hf) hS (fun q _ => hff q) hff
    (fun u t H1 locs1 ht hvm hw hB hz hk hS1 => kk H1 locs1 (ht ▸ hB) hk hS1)
theorem kret (hC : Cx p s m args meth c cc nL own none) (hS : va_S A s.heap H locs) {Qh : Heap → Prop} (hq : Qh H) {mc ms : Nat} (h1 : cells ≤ mc) (h2 : slots ≤ ms) (hdg : decode cc pc = .ok (.return_, 1)) :
    W p l e R s m args below meth c H locs cells slots (MQ below (va_Qv (fun _ : Unit => True) (fun _ t => Qh t.heap) A) args s mc ms A) (F0 m pc ls []) :=
  W.widen h1 h2 (W.vret hC.x hC.b hC.rt (fun _ ht hW => ⟨⟨(), rfl, trivial, by show Qh _; rw [ht]; exact hq⟩, hS.F ht⟩) hS.2.2 hdg hC.lk)
theorem kcb {y : MethodName} {b : ByteArray} {maxL n d mc ms index : Nat} (ht : ∀ w ∈ TB, w.before args s = true) (hc : Cond.code y b maxL none ∈ TB) (hini : Cond.initialized y.cls ∈ TB) (hl : Cond.methodLink own index y ∈ TB)
    (hd : y.cls ≠ "java/lang/invoke/MethodHandle" ∧ y.cls ≠ "java/lang/invoke/VarHandle" ∧ (parseMethodDescriptor y.desc).map (fun d => d.parameters.length) = some n) (hR : d + 1 ≤ R.frames ∧ 8 + (maxL + 11) + 40 * d ≤ R.locals) :
    CallB R s args own index y b maxL none (wsOf y b maxL none) (rmK d mc ms) mc ms n :=
  callB_of (Ts := TB) n ht (gi_of (fun _ h => h) hc (gi_tb fun _ h => h)) rfl rfl rfl (ht _ hini) (ht _ hl) hd hR
theorem kcn {y : MethodName} {b : ByteArray} {maxL n d mc ms index : Nat} {host : String} (ht : ∀ w ∈ TB, w.before args s = true) (hc : Cond.code y b maxL none ∈ TB) (hini : Cond.initialized y.cls ∈ TB) (hl : va_Nw (.methodLinkNest own index y host) s)
    (hd : y.cls ≠ "java/lang/invoke/MethodHandle" ∧ y.cls ≠ "java/lang/invoke/VarHandle" ∧ (parseMethodDescriptor y.desc).map (fun d => d.parameters.length) = some n) (hR : d + 1 ≤ R.frames ∧ 8 + (maxL + 11) + 40 * d ≤ R.locals) :
    va_CN R s args own index y host b maxL none (wsOf y b maxL none) (rmK d mc ms) mc ms n :=
  va_cnB (Ts := TB) n ht (gi_of (fun _ h => h) hc (gi_tb fun _ h => h)) rfl rfl rfl hl (ht _ hini) hd hR
end KROWS
abbrev AT (G : Gx) (a : Nat) (x : va_E) (H : Heap) : Prop := va_at G.1 vwCl (a, x) H
theorem ki_congr {G : Gx} {a n : Nat} {f g : Nat → Int32} {H : Heap} (h : KI G a n f H) (e : ∀ j, j < n → f j = g j) : KI G a n g H := by
  have e2 : vp_cell (G.2.2 0) (n, .inl f) = vp_cell (G.2.2 0) (n, .inl g) := by
    rw [vp_cell_i, vp_cell_i]
    show ({ cls := G.2.2 0, slots := Array.ofFn (n := n) fun j => .int (f j.val), vm := .none } : Cell) = { cls := G.2.2 0, slots := Array.ofFn (n := n) fun j => .int (g j.val), vm := .none }
    have e3 : (fun j : Fin n => Value.int (f j.val)) = fun j : Fin n => Value.int (g j.val) := by
      funext j
      rw [e j.val j.isLt]
    rw [e3]
  show H[a]? = _
  rw [← e2]
  exact h
theorem kq_congr {G : Gx} {t a n : Nat} {f g : Nat → Option Nat} {H : Heap} (h : KQ G t a n f H) (e : ∀ j, j < n → f j = g j) : KQ G t a n g H := by
  have e2 : vp_cell (G.2.2 t) (n, .inr (.inr (.inr (.inr f)))) = vp_cell (G.2.2 t) (n, .inr (.inr (.inr (.inr g)))) := by
    rw [vp_cell_q, vp_cell_q]
    show ({ cls := G.2.2 t, slots := Array.ofFn (n := n) fun j => va_rf (f j.val), vm := .none } : Cell) = { cls := G.2.2 t, slots := Array.ofFn (n := n) fun j => va_rf (g j.val), vm := .none }
    have e3 : (fun j : Fin n => va_rf (f j.val)) = fun j : Fin n => va_rf (g j.val) := by
      funext j
      rw [e j.val j.isLt]
    rw [e3]
  show H[a]? = _
  rw [← e2]
  exact h
theorem nfree {a b q : Nat} (h : q ≠ a) (h2 : q < b) : ¬ (q = a ∨ b ≤ q) := by omega
theorem yfree {a b z q a0 : Nat} (h : z ≤ a) (h2 : z ≤ b) (hq : q = a ∨ b ≤ q) : q = a0 ∨ z ≤ q := by omega
theorem nfr1 {a q : Nat} (h : q ≠ a) : ¬ (q = a) := h
theorem fam_ext {G : Gx} {z n : Nat} {f : Nat → va_E} {H : Heap} (h : ∀ k, k < n → AT G (z + k) (f k) H) (h2 : AT G (z + n) (f n) H) : ∀ k, k < n + 1 → AT G (z + k) (f k) H := fun k hk => by
  by_cases e : k = n
  · subst e; exact h2
  · exact h k (by omega)
theorem fam_kept {G : Gx} {z n : Nat} {f : Nat → va_E} {H H1 : Heap} (h : ∀ k, k < n → AT G (z + k) (f k) H) (ho : ∀ q, z ≤ q → q < z + n → H1[q]? = H[q]?) : ∀ k, k < n → AT G (z + k) (f k) H1 := fun k hk => va_at.kept (h k hk) (ho _ (by show z ≤ z + k; omega) (by show z + k < z + n; omega))
