/-! new int[x][y]: the machine's own loop -/
def muC (cA : ClassId) (x h : Nat) : Nat → Cell
  | 0 => { cls := cA, slots := Array.replicate x .null, vm := .none }
  | k + 1 => (muC cA x h k).setSlot k (.ref (h + 1 + k))
def muI (cI : ClassId) (y : Nat) : Cell := { cls := cI, slots := Array.replicate y (.int 0), vm := .none }
def muS (T : State) (cA cI : ClassId) (x y : Nat) : Nat → State
  | 0 => T.pushCell (muC cA x T.heap.size 0)
  | k + 1 => ((muS T cA cI x y k).pushCell (muI cI y)).setCell T.heap.size ((muC cA x T.heap.size k).setSlot k (.ref (T.heap.size + 1 + k)))
def muL (h : Nat) : Nat → List Loc
  | 0 => []
  | k + 1 => muL h k ++ [⟨h, k⟩]
theorem muL_base {h : Nat} : ∀ (k : Nat) (q : Loc), q ∈ muL h k → q.base = h
  | 0, q, hq => by cases hq
  | k + 1, q, hq => by
    rcases List.mem_append.mp hq with h1 | h1
    · exact muL_base k q h1
    · rw [List.mem_singleton.mp h1]
theorem muC_arr (cA : ClassId) (x h : Nat) : ∀ k, muC cA x h k = arrV cA x (fun i => if i < k then .ref (h + 1 + i) else .null)
  | 0 => by
    show ({ cls := cA, slots := Array.replicate x .null, vm := .none } : Cell) = _
    rw [arrV_new]
    congr 1
  | k + 1 => by
    show (muC cA x h k).setSlot k _ = _
    rw [muC_arr cA x h k, arrV_store]
    congr 1
    funext i
    by_cases e : i = k
    · subst e
      simp [updV]
    · simp only [updV, if_neg e]
      by_cases e2 : i < k
      · rw [if_pos e2, if_pos (by omega)]
      · rw [if_neg e2, if_neg (by omega)]
section MU
variable {T : State} {cA cI : ClassId} {x y : Nat}
theorem mu_size : ∀ k, (muS T cA cI x y k).heap.size = T.heap.size + 1 + k
  | 0 => by
    show (T.heap.push _).size = _
    rw [Array.size_push]
  | k + 1 => by
    show (((muS T cA cI x y k).pushCell (muI cI y)).setCell _ _).heap.size = _
    rw [size_setCell]
    show ((muS T cA cI x y k).heap.push _).size = _
    rw [Array.size_push, mu_size k]
    omega
theorem mu_at : ∀ k, (muS T cA cI x y k).heap[T.heap.size]? = some (muC cA x T.heap.size k)
  | 0 => by
    show (T.heap.push _)[T.heap.size]? = _
    rw [Array.getElem?_push_size]
  | k + 1 => by
    refine heapAt_setCell_self _ ?_
    show T.heap.size < ((muS T cA cI x y k).heap.push _).size
    rw [Array.size_push, mu_size k]
    omega
theorem mu_push (k : Nat) : ((muS T cA cI x y k).pushCell (muI cI y)).heap[T.heap.size]? = some (muC cA x T.heap.size k) := by
  show ((muS T cA cI x y k).heap.push _)[T.heap.size]? = _
  rw [Array.getElem?_push, if_neg (by rw [mu_size]; omega)]
  exact mu_at k
theorem mu_in : ∀ (k i : Nat), i < k → (muS T cA cI x y k).heap[T.heap.size + 1 + i]? = some (muI cI y)
  | 0, i, h => absurd h (Nat.not_lt_zero i)
  | k + 1, i, h => by
    show (((muS T cA cI x y k).pushCell (muI cI y)).setCell _ _).heap[_]? = _
    rw [heapAt_setCell_ne _ (show T.heap.size ≠ T.heap.size + 1 + i by omega)]
    show ((muS T cA cI x y k).heap.push _)[_]? = _
    rw [Array.getElem?_push, mu_size k]
    by_cases e : i = k
    · rw [if_pos (by omega)]
    · rw [if_neg (by omega)]
      exact mu_in k i (by omega)
theorem mu_old : ∀ (k q : Nat), q < T.heap.size → (muS T cA cI x y k).heap[q]? = T.heap[q]?
  | 0, q, h => by
    show (T.heap.push _)[q]? = _
    rw [Array.getElem?_push, if_neg (by omega)]
  | k + 1, q, h => by
    show (((muS T cA cI x y k).pushCell (muI cI y)).setCell _ _).heap[_]? = _
    rw [heapAt_setCell_ne _ (show T.heap.size ≠ q by omega)]
    show ((muS T cA cI x y k).heap.push _)[_]? = _
    rw [Array.getElem?_push, if_neg (by rw [mu_size k]; omega)]
    exact mu_old k q h
theorem mu_stand {p : Program} {l : Launch} {e : Env} {R : Room} {s : State} {m : MethodId} {args : Array Value} {below : List Frame} {meth : Method} {c : Code} {locs : List Loc} {cells slots : Nat} (X : Stand p l e R s m args below meth c T locs cells slots) :
    ∀ k, Stand p l e R s m args below meth c (muS T cA cI x y k) (locs ++ muL T.heap.size k) (cells + 1 + k) (slots + x + k * y)
  | 0 => by
    have h := X.pushed (muC cA x T.heap.size 0)
    have e1 : (muC cA x T.heap.size 0).slots.size = x := Array.size_replicate
    rw [e1] at h
    show Stand p l e R s m args below meth c _ (locs ++ []) (cells + 1) (slots + x + 0 * y)
    rw [List.append_nil, Nat.zero_mul]
    exact h
  | k + 1 => by
    have h := ((mu_stand X k).pushed (muI cI y)).stored (mu_push k) k (.ref (T.heap.size + 1 + k))
    have e1 : (muI cI y).slots.size = y := Array.size_replicate
    rw [e1, List.append_assoc] at h
    have e2 : slots + x + (k + 1) * y = slots + x + k * y + y := by rw [Nat.succ_mul]; omega
    rw [e2]
    exact h
theorem mu_vm : ∀ k, (muS T cA cI x y k).vm = T.vm
  | 0 => rfl
  | k + 1 => mu_vm k
theorem mu_top : ∀ k, (muS T cA cI x y k).topJava? = T.topJava?
  | 0 => rfl
  | k + 1 => mu_top k
end MU
theorem mu_used {T : State} {cA cI : ClassId} {x y : Nat} : ∀ k, (muS T cA cI x y k).slotsUsed = T.slotsUsed + (x + k * y)
  | 0 => by simp [muS, muC]
  | k + 1 => by
    have h := mu_used (T := T) (cA := cA) (cI := cI) (x := x) (y := y) k
    have e : (k + 1) * y = k * y + y := Nat.succ_mul k y
    simp [muS, h, muI, e]
    omega
theorem mu_set (T : State) (f : JFrame) (cA cI : ClassId) (x y : Nat) : ∀ k, muS (T.setTop f) cA cI x y k = (muS T cA cI x y k).setTop f
  | 0 => rfl
  | k + 1 => by
    have h := mu_set T f cA cI x y k
    simp only [muS, h, State.heap_setTop, State.pushCell_setTop, State.setCell_setTop]
section MUW
variable {E : CtlPost} {e : Env} {d : Bool} {acts : List Action} {s : State}
theorem mu_new {cA comp : ClassId} {kA : Class} {ty : FieldType} {n : Nat} {v : Value} (hk : s.vm.classes[cA]? = some kA) (hkind : kA.kind = .array comp ty) (hlimit : ¬ n > e.platform.arrayLengthLimit) (hheap : ¬ n * componentBytes ty > e.platform.maxHeapBytes) (hv : fits ty v = true) (hd : v.isDefault = true) {Q : Addr → Pre}
    (h1 : s.heap.size < e.platform.maxCells) (h2 : s.slotsUsed + n ≤ e.platform.maxSlots) (hq : Q s.heap.size d acts (s.pushCell { cls := cA, slots := Array.replicate n v, vm := .none })) : wp (Jvm.newArray cA n v) Q E e d acts s := by
  have hfit : ∀ i w, (Array.replicate n v)[i]? = some w → s.fitsSlot cA .none i w = true := by
    intro i w hw
    simp only [Array.getElem?_replicate] at hw
    split at hw
    · cases hw; simp [State.fitsSlot, State.slotType?, hk, hkind, hv]
    · cases hw
  have hdef : allocActs (Array.replicate n v) s.heap.size acts = acts := by
    have hall : ((Array.replicate n v).all (·.isDefault)) = true := by
      rw [Array.all_replicate]; split <;> simp [hd]
    unfold allocActs; rw [if_pos hall]
  simp only [Jvm.newArray, Jvm.arrayFits, wp_bind', W.ask, W.ite, hlimit, if_false, wp_pure', W.theClass, hk, hkind, hheap, W.alloc, W.stop, Option.some.injEq, exists_eq_left', Array.size_replicate, hdef]
  rw [if_neg (by omega)]
  exact ⟨h1, h2, hfit, hq⟩
theorem mu_make1 {cI : ClassId} {kI : Class} {comp : ClassId} {n : Int32} {Q : Addr → Pre} (hk : s.vm.classes[cI]? = some kI) (hkind : kI.kind = .array comp .int) (hn : ¬ n < 0) (hlimit : ¬ n.toNatClampNeg > e.platform.arrayLengthLimit) (hheap : ¬ n.toNatClampNeg * 4 > e.platform.maxHeapBytes)
    (h1 : s.heap.size < e.platform.maxCells) (h2 : s.slotsUsed + n.toNatClampNeg ≤ e.platform.maxSlots) (hq : Q s.heap.size d acts (s.pushCell (muI cI n.toNatClampNeg))) :
    wp (multianewarray.make cI [n]) Q E e d acts s := by
  rw [multianewarray.make]
  simp only [wp_bind', W.ite, hn, if_false, wp_pure', W.theClass, hk, hkind, Option.some.injEq, exists_eq_left']
  exact mu_new hk hkind hlimit hheap rfl rfl h1 h2 hq
theorem mu_make2 {cA cI : ClassId} {kA kI : Class} {comp : ClassId} {x y : Nat} {n n0 : Int32} {Q : Addr → Pre} (hkA : s.vm.classes[cA]? = some kA) (hkindA : kA.kind = .array cI (.array .int)) (hkI : s.vm.classes[cI]? = some kI) (hkindI : kI.kind = .array comp .int)
    (hn : ¬ n < 0) (hy : n.toNatClampNeg = y) (hn0 : ¬ n0 < 0) (hx : n0.toNatClampNeg = x) (hlimit : ¬ y > e.platform.arrayLengthLimit) (hheap : ¬ y * 4 > e.platform.maxHeapBytes) (hlimit2 : ¬ x > e.platform.arrayLengthLimit) (hheap2 : ¬ x * 4 > e.platform.maxHeapBytes)
    (hc : s.heap.size + (1 + x) ≤ e.platform.maxCells) (hz : s.slotsUsed + (x + x * y) ≤ e.platform.maxSlots) (hq : ∀ d' acts', Q s.heap.size d' acts' (muS s cA cI x y x)) :
    wp (multianewarray.make cA [n0, n]) Q E e d acts s := by
  have hfind : ([n].find? (· < 0)) = none := by simp [hn]
  rw [multianewarray.make]
  simp only [wp_bind', W.ite, hn0, if_false, wp_pure', W.theClass, hkA, hkindA, Option.some.injEq, exists_eq_left']
  rw [hx]
  refine mu_new hkA hkindA hlimit2 hheap2 rfl rfl (by omega) (by omega) ?_
  simp only [hfind]
  rw [ite_self, wp_bind', Std.Legacy.Range.forIn_eq_forIn_range']
  have hsz : ([:x] : Std.Legacy.Range).size = x := by simp [Std.Legacy.Range.size]
  rw [hsz]
  show wp (forIn (List.range' 0 x 1) PUnit.unit _) _ E e d acts _
  refine wp_forIn_inv (fun rest s' => ∃ i, i ≤ x ∧ rest = List.range' i (x - i) ∧ s' = muS s cA cI x y i) _ _ ⟨0, Nat.zero_le _, rfl, rfl⟩ ?_ ?_
  · rintro k rest s' d' acts' Q' ⟨i, hi, hl, rfl⟩ hnext
    have hlt : i < x := by
      rcases Nat.lt_or_ge i x with h | h
      · exact h
      · rw [show x - i = 0 by omega] at hl; simp at hl
    rw [show x - i = (x - (i + 1)) + 1 by omega, List.range'_succ] at hl
    obtain ⟨rfl, hrest⟩ := List.cons.inj hl
    have hmul : (k + 1) * y ≤ x * y := Nat.mul_le_mul_right y hlt
    rw [Nat.succ_mul] at hmul
    simp only [wp_bind']
    refine mu_make1 (by rw [mu_vm]; exact hkI) hkindI hn (by rw [hy]; exact hlimit) (by rw [hy]; exact hheap) (by rw [mu_size]; omega) (by rw [mu_used, hy]; omega) ?_
    rw [hy, mu_size]
    simp only [wp_bind', W.writeLoc, wp_pure']
    refine ⟨muC cA x s.heap.size k, mu_push k, by rw [muC_arr]; exact fun q => (by cases q), by rw [muC_arr, arrV_size]; exact hlt, ?_, hnext _ _ _ ⟨k + 1, hlt, hrest, rfl⟩⟩
    rw [muC_arr]
    show ((muS s cA cI x y k).pushCell (muI cI y)).fitsSlot cA .none k _ = true
    have hv : ((muS s cA cI x y k).pushCell (muI cI y)).vm = s.vm := mu_vm k
    have hv2 : (muS s cA cI x y k).vm = s.vm := mu_vm k
    have hf : fits (.array .int) (.ref (s.heap.size + 1 + k)) = true := rfl
    simp [State.fitsSlot, State.slotType?, hv, hv2, hkA, hkindA, hf]
  · rintro s' d' acts' ⟨i, hi, hl, rfl⟩
    have hix : i = x := by
      rcases Nat.lt_or_ge i x with h | h
      · rw [show x - i = (x - (i + 1)) + 1 by omega, List.range'_succ] at hl; cases hl
      · omega
    subst hix
    simp only [wp_pure']
    exact hq _ _
theorem mu_cold {index cA : Nat} {vm' : Vm} {f : JFrame} {Q : Unit → Pre} (hs : s.topJava?.isSome) (hg : (Jvm.resolveClass f.method.cls index).Gives e.toSetting s.vm (.ok cA) vm') (hr : vm'.classReady f.method.cls index cA) (hsz : vm'.classes.size ≤ s.vm.classes.size := by no_record) :
    wp (multianewarray.sem index 2) Q E e d acts (s.setTop f) ↔ wp (multianewarray.sem index 2) Q E e d acts ((s.setVm vm').setTop f) := by
  simp only [multianewarray.sem, wp_bind']
  exact W.resolveClassAt_transfer (s := s.setTop f) (State.method?_setTop f hs) hg hr
theorem mu_sem {index : Nat} {f : JFrame} {rest : List Value} {cA cI : ClassId} {kA kI : Class} {comp : ClassId} {x y : Nat} {n n0 : Int32} {Q : Unit → Pre} (hs : s.topJava?.isSome) (hr : s.vm.classReady f.method.cls index cA) (hstack : f.stack = .int n :: .int n0 :: rest) (hkA : s.vm.classes[cA]? = some kA) (hkindA : kA.kind = .array cI (.array .int)) (hkI : s.vm.classes[cI]? = some kI) (hkindI : kI.kind = .array comp .int)
    (hn : ¬ n < 0) (hy : n.toNatClampNeg = y) (hn0 : ¬ n0 < 0) (hx : n0.toNatClampNeg = x) (hlimit : ¬ y > e.platform.arrayLengthLimit) (hheap : ¬ y * 4 > e.platform.maxHeapBytes) (hlimit2 : ¬ x > e.platform.arrayLengthLimit) (hheap2 : ¬ x * 4 > e.platform.maxHeapBytes)
    (hc : s.heap.size + (1 + x) ≤ e.platform.maxCells) (hz : s.slotsUsed + (x + x * y) ≤ e.platform.maxSlots) (hq : ∀ d' acts', Q () d' acts' ((muS s cA cI x y x).setTop { f with stack := .ref s.heap.size :: rest })) :
    wp (multianewarray.sem index 2) Q E e d acts (s.setTop f) := by
  simp only [multianewarray.sem, wp_bind', W.resolveClassAt_ready (State.method?_setTop f hs) hr, Jvm.popN, W.pop, wp_pure', State.topJava?_setTop' _ hs, Option.some.injEq, exists_eq_left', hstack, List.cons.injEq, exists_cons_eq, State.setTop_setTop, List.nil_append, List.cons_append, List.mapM, List.mapM.loop, List.reverse_cons, List.reverse_nil, W.mark]
  refine mu_make2 (s := s.setTop { f with stack := rest }) hkA hkindA hkI hkindI hn hy hn0 hx hlimit hheap hlimit2 hheap2 hc hz ?_
  intro d' acts'
  rw [mu_set]
  simp only [wp_bind', W.mark, W.pushRef, State.heap_setTop, State.topJava?_setTop' _ (show (muS s cA cI x y x).topJava?.isSome by rw [mu_top]; exact hs), Option.some.injEq, exists_eq_left', State.setTop_setTop]
  exact hq _ _
end MUW
section MUR
variable {p : Program} {l : Launch} {e : Env} {R : Room} {s : State} {m : MethodId} {args : Array Value} {below : List Frame} {meth : Method} {c : Code} {H : Heap} {locs : List Loc} {cells slots : Nat} {Q : State → Prop}
variable {cc : ByteArray} {pc : Nat} {ls : Array Slot} {rest : List Value}
/-- the row of multianewarray, two lengths -/
theorem mu_row (hexec : p.tables.exec = Jvm.exec) (hb : c.code = cc) {own : String} {index : Nat} (hown : s.vm.findClass own = some m.cls) (hclink : (Cond.classLink own index "[[I").before args s = true) (hover : (Cond.arrayOver (.array .int)).before args s = true) (harr : (Cond.arrayClass .int).before args s = true)
    {n n0 : Int32} {x y : Nat} (hn : ¬ n < 0) (hy : n.toNatClampNeg = y) (hn0 : ¬ n0 < 0) (hx : n0.toNatClampNeg = x) (hby : y * 4 ≤ 536870912) (hbx : x * 4 ≤ 536870912) (hcells : cells + (1 + x) ≤ R.cells) (hslots : slots + (x + x * y) ≤ R.slots) (hdg : decode cc pc = .ok (.multianewarray index 2, 4))
    (kk : ∀ (H1 : Heap) (cA cI : ClassId), s.vm.findClass "[[I" = some cA → s.vm.findClass "[I" = some cI → H1[H.size]? = some (arrV cA x (fun i => if i < x then .ref (H.size + 1 + i) else .null)) → (∀ i, i < x → H1[H.size + 1 + i]? = some (arrV cI y (fun _ => .int 0))) → H1.size = H.size + 1 + x → (∀ q, q < H.size → H1[q]? = H[q]?) →
      W p l e R s m args below meth c H1 (locs ++ muL H.size x) (cells + 1 + x) (slots + x + x * y) Q (F0 m (pc + 4) ls (.ref H.size :: rest))) : W p l e R s m args below meth c H locs cells slots Q (F0 m pc ls (.int n :: .int n0 :: rest)) := by
  intro T hT X
  subst hT
  subst hb
  have hpl : e.platform.magicAccessors = ({} : Platform).magicAccessors := by rw [X.admits.platform]
  obtain ⟨cI, cA, kA, hcI, hidx, hkA, hkindA, hnameA⟩ := arrayOverA_spec hover
  obtain ⟨cI', kI, comp, hI, hkI, hkindI⟩ := Cond.arrayClass_spec harr
  have e1 : cI' = cI := Option.some.inj (hI.symm.trans hcI)
  subst e1
  obtain ⟨cA', hfcc, hcl⟩ := Cond.classLink_spec hown hclink e.platform hpl
  have e2 : cA' = cA := Option.some.inj (hfcc.symm.trans hnameA)
  subst e2
  obtain ⟨hg₁, hwarm₁, hready₁⟩ := State.classEntry (e := e) X.warmed hcl
  generalize T.vm.noted m.cls index (.cls cA') = vm₁ at hg₁ hwarm₁ hready₁
  have hal : s.vm.Alike vm₁ := hwarm₁.alike
  obtain ⟨kA₁, hkA₁, heA⟩ := hal.2.2 _ _ hkA
  obtain ⟨kI₁, hkI₁, heI⟩ := hal.2.2 _ _ hkI
  have hkindA₁ : kA₁.kind = .array cI' (.array .int) := by rw [heA]; exact hkindA
  have hkindI₁ : kI₁.kind = .array comp .int := by rw [heI]; exact hkindI
  have hl1 : ¬ y > e.platform.arrayLengthLimit := by rw [Launch.admits_arrayLengthLimit X.admits]; omega
  have hl2 : ¬ x > e.platform.arrayLengthLimit := by rw [Launch.admits_arrayLengthLimit X.admits]; omega
  have hh1 : ¬ y * 4 > e.platform.maxHeapBytes := by rw [Launch.admits_maxHeapBytes X.admits]; omega
  have hh2 : ¬ x * 4 > e.platform.maxHeapBytes := by rw [Launch.admits_maxHeapBytes X.admits]; omega
  have X₁ := X.noted hwarm₁
  have X₂ := mu_stand (cA := cA') (cI := cI') (x := x) (y := y) X₁ x
  obtain ⟨hr1, hr2⟩ := X.roomAbove hcells hslots
  obtain ⟨t', a1, b1⟩ := kk (muS (T.setVm vm₁) cA' cI' x y x).heap cA' cI' hnameA hI (by rw [← muC_arr]; exact mu_at (T := T.setVm vm₁) x) (fun i hi => by rw [← arrV_new]; exact mu_in (T := T.setVm vm₁) x i hi) (mu_size (T := T.setVm vm₁) x) (fun q hq => mu_old (T := T.setVm vm₁) x q hq) _ rfl X₂
  refine ⟨t', ?_, b1⟩
  have hgo : ∀ {E : CtlPost} {d : Bool} {acts : List Action} {Q : Unit → Pre}, (∀ d' acts', Q () d' acts' ((muS (T.setVm vm₁) cA' cI' x y x).setTop { (F0 m pc ls (.int n :: .int n0 :: rest) : JFrame) with stack := .ref T.heap.size :: rest })) → wp (multianewarray.sem index 2) Q E e d acts (T.setTop (F0 m pc ls (.int n :: .int n0 :: rest))) := fun hq =>
    (mu_cold X.here.top hg₁ hready₁).mpr (mu_sem (s := T.setVm vm₁) X.here.top hready₁ rfl hkA₁ hkindA₁ hkI₁ hkindI₁ hn hy hn0 hx hl1 hh1 hl2 hh2 hr1 hr2 hq)
  refine Steps.instr (c := _) (by simpa using X.here) ?_
  have hd2 : decode c.code (F0 m pc ls (.int n :: .int n0 :: rest)).pc = .ok (.multianewarray index 2, 4) := hdg
  rw [hd2]
  simp only [hexec]
  refine hgo ?_
  intro d' acts' acts''
  rw [afterInstr_ok]
  exact a1
end MUR
