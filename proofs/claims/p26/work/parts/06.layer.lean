/-! ===== the layer: one typed heap for the class and the reference: objects by number, ints and longs by number and place ===== -/
/-- room of a call of depth d that makes no cell -/
abbrev rmD (d : Nat) : Room := { frames := d, cells := 0, slots := 0, locals := 40 * d }
abbrev wsOf (y : MethodName) (b : ByteArray) (n : Nat) (r : Option FieldType) : List Cond := Cond.code y b n r :: TB
/-- D; the objects' addresses; the array classes -/
abbrev Gx : Type := va_G × (Nat → Nat) × (Nat → ClassId)
abbrev SI : Type := Nat → Nat → Int32
abbrev SL : Type := Nat → Nat → Int64
abbrev ty_of (k : Nat) : FieldType := match k with
  | 0 => .int
  | 1 => .boolean
  | 2 => .object "TimeBench$Clock"
  | 3 => .object "TimeBench$Link"
  | _ => .array .int
def tysG (G : Gx) : List (ClassId × FieldType) := [(G.2.2 0, ty_of 0), (G.2.2 1, ty_of 1), (G.2.2 2, ty_of 2), (G.2.2 3, ty_of 3), (G.2.2 4, ty_of 4)]
def NW (U : State) : Prop := va_Nw (.methodLinkNest RX5 30 yX4_init "TimeBench") U ∧ va_Nw (.methodLinkNest RX9 25 yX6_init "TimeBench") U ∧ va_Nw (.methodLinkNest RX2 11 yX3_init "TimeBench") U ∧ va_Nw (.methodLinkNest RX5 35 yX9_isClockKind "TimeBench") U ∧ va_Nw (.methodLinkNest RX5 39 yX9_isLinkKind "TimeBench") U ∧ va_Nw (.methodLinkNest RX2 84 yX9_cut "TimeBench") U ∧ va_Nw (.methodLinkNest RX1 134 yX9_cut "TimeBench") U
theorem NW.warm {s U : State} (hW : s.WarmedH U.vm) (h : NW s) : NW U := ⟨va_Nw.warmM hW h.1, va_Nw.warmM hW h.2.1, va_Nw.warmM hW h.2.2.1, va_Nw.warmM hW h.2.2.2.1, va_Nw.warmM hW h.2.2.2.2.1, va_Nw.warmM hW h.2.2.2.2.2.1, va_Nw.warmM hW h.2.2.2.2.2.2⟩
theorem NW.same {u U : State} (he : u.vm = U.vm) (h : NW u) : NW U := ⟨va_Nw.same rfl he h.1, va_Nw.same rfl he h.2.1, va_Nw.same rfl he h.2.2.1, va_Nw.same rfl he h.2.2.2.1, va_Nw.same rfl he h.2.2.2.2.1, va_Nw.same rfl he h.2.2.2.2.2.1, va_Nw.same rfl he h.2.2.2.2.2.2⟩
def NID : Nat := 176
def ct0 (G : Gx) (f : Nat → Int32) (g : Nat → Int64) : List va_E := [.inr (9, [.ref (G.2.1 1), .ref (G.2.1 5), .ref (G.2.1 8), .ref (G.2.1 12), .ref (G.2.1 18), .ref (G.2.1 21), .ref (G.2.1 23), .int (f 7), .int (f 8), .int (f 9), .int (f 10), .int (f 11), .int (f 12)]),
  .inr (5, [.ref (G.2.1 2), .ref (G.2.1 3), .ref (G.2.1 4)]),
  .inl (G.2.2 0, 24, .inl f),
  .inl (G.2.2 2, 24, .inr (.inr (.inr (.inr (fun i => some (G.2.1 (80 + i))))))),
  .inl (G.2.2 3, 24, .inr (.inr (.inr (.inr (fun i => some (G.2.1 (104 + i))))))),
  .inr (7, [.ref (G.2.1 6), .ref (G.2.1 7)]),
  .inl (G.2.2 4, 5, .inr (.inr (.inr (.inr (fun i => some (G.2.1 (24 + i))))))),
  .inl (G.2.2 4, 6, .inr (.inr (.inr (.inr (fun i => some (G.2.1 (29 + i))))))),
  .inr (6, [.ref (G.2.1 9), .ref (G.2.1 10), .ref (G.2.1 11), .int (f 3)]),
  .inl (G.2.2 0, 100, .inl f),
  .inl (G.2.2 0, 100, .inl f),
  .inl (G.2.2 0, 100, .inl f),
  .inr (8, [.ref (G.2.1 1), .ref (G.2.1 13), .ref (G.2.1 14), .ref (G.2.1 15), .ref (G.2.1 16), .ref (G.2.1 17), .int (f 6)]),
  .inl (G.2.2 0, 24, .inl f),
  .inl (G.2.2 0, 24, .inl f),
  .inl (G.2.2 0, 24, .inl f),
  .inl (G.2.2 0, 24, .inl f),
  .inl (G.2.2 0, 24, .inl f),
  .inr (2, [.ref (G.2.1 5), .ref (G.2.1 19), .ref (G.2.1 20), .long (g 3), .int (f 4), .long (g 5), .long (g 6)]),
  .inr (3, [.int (f 0), .long (g 1), .long (g 2), .long (g 3), .long (g 4)]),
  .inr (3, [.int (f 0), .long (g 1), .long (g 2), .long (g 3), .long (g 4)]),
  .inr (1, [.ref (G.2.1 1), .ref (G.2.1 12), .ref (G.2.1 5), .ref (G.2.1 18), .ref (G.2.1 8), .ref (G.2.1 22), .int (f 6)]),
  .inl (G.2.2 0, 24, .inl f),
  .inl (G.2.2 0, 24, .inl f),
  .inl (G.2.2 0, 4800, .inl f),
  .inl (G.2.2 0, 4800, .inl f),
  .inl (G.2.2 0, 4800, .inl f),
  .inl (G.2.2 0, 4800, .inl f),
  .inl (G.2.2 0, 4800, .inl f),
  .inl (G.2.2 0, 200, .inl f),
  .inl (G.2.2 0, 200, .inl f),
  .inl (G.2.2 0, 200, .inl f),
  .inl (G.2.2 0, 200, .inl f),
  .inl (G.2.2 0, 200, .inl f),
  .inl (G.2.2 0, 200, .inl f),
  .inr (10, [.ref (G.2.1 36), .ref (G.2.1 37), .ref (G.2.1 38), .ref (G.2.1 39), .ref (G.2.1 40), .ref (G.2.1 41), .ref (G.2.1 42), .ref (G.2.1 43), .ref (G.2.1 44), .ref (G.2.1 45), .ref (G.2.1 46), .ref (G.2.1 47), .ref (G.2.1 48), .ref (G.2.1 49), .ref (G.2.1 50), .ref (G.2.1 51), .ref (G.2.1 52), .ref (G.2.1 53), .ref (G.2.1 54), .ref (G.2.1 55), .ref (G.2.1 56), .ref (G.2.1 57), .ref (G.2.1 58), .ref (G.2.1 59), .ref (G.2.1 60), .ref (G.2.1 61), .ref (G.2.1 62), .ref (G.2.1 63), .ref (G.2.1 64), .int (f 29), .int (f 30), .int (f 31), .int (f 32), .int (f 33), .ref (G.2.1 65), .ref (G.2.1 66), .ref (G.2.1 67), .int (f 37), .ref (G.2.1 68), .ref (G.2.1 69), .ref (G.2.1 70), .int (f 41), .int (f 42), .int (f 43), .int (f 44), .long (g 45), .long (g 46), .long (g 47), .ref (G.2.1 71)]),
  .inl (G.2.2 0, 24, .inl f),
  .inl (G.2.2 0, 24, .inl f),
  .inl (G.2.2 0, 24, .inl f),
  .inl (G.2.2 1, 24, .inl f),
  .inl (G.2.2 1, 24, .inl f),
  .inl (G.2.2 1, 24, .inl f),
  .inl (G.2.2 0, 24, .inl f),
  .inl (G.2.2 0, 24, .inl f),
  .inl (G.2.2 0, 24, .inl f),
  .inl (G.2.2 0, 24, .inl f),
  .inl (G.2.2 0, 24, .inl f),
  .inl (G.2.2 0, 24, .inl f),
  .inl (G.2.2 0, 4824, .inl f),
  .inl (G.2.2 0, 4824, .inl f),
  .inl (G.2.2 1, 4824, .inl f),
  .inl (G.2.2 1, 4824, .inl f),
  .inl (G.2.2 1, 4824, .inl f),
  .inl (G.2.2 1, 4824, .inl f),
  .inl (G.2.2 0, 4824, .inl f),
  .inl (G.2.2 0, 4824, .inl f),
  .inl (G.2.2 0, 4824, .inl f),
  .inl (G.2.2 0, 4824, .inl f),
  .inl (G.2.2 0, 4824, .inl f),
  .inl (G.2.2 0, 201, .inl f),
  .inl (G.2.2 0, 201, .inl f),
  .inl (G.2.2 0, 201, .inl f),
  .inl (G.2.2 0, 201, .inl f),
  .inl (G.2.2 0, 201, .inl f),
  .inl (G.2.2 0, 201, .inl f),
  .inl (G.2.2 0, 100, .inl f),
  .inl (G.2.2 0, 100, .inl f),
  .inl (G.2.2 0, 100, .inl f),
  .inl (G.2.2 0, 24, .inl f),
  .inl (G.2.2 0, 24, .inl f),
  .inl (G.2.2 0, 24, .inl f),
  .inl (G.2.2 1, 24, .inl f)]
/-- what the object of number k holds: clocks from 80 on, links from 104 on, their rows from 128 and 152 on -/
def ct (G : Gx) (k : Nat) (f : Nat → Int32) (g : Nat → Int64) : Option va_E :=
  if k < 80 then (ct0 G f g)[k]? else if k < 104 then some (.inr (0, [.int (nI (k - 80)), .int (f 1), .int (f 2), .int (f 3), .int (f 4), .int (f 5), .int (f 6), .int (f 7), .int (f 8), .int (f 9), .int (f 10), .int (f 11)])) else if k < 128 then some (.inr (4, [.int (f 0), .int (f 1), .int (f 2), .int (f 3), .ref (G.2.1 (k + 24)), .ref (G.2.1 (k + 48))])) else if k < 176 then some (.inl (G.2.2 0, 201, .inl f)) else none
theorem ct_none {G : Gx} {k : Nat} {f : Nat → Int32} {g : Nat → Int64} (h : NID ≤ k) : ct G k f g = none := by
  have h : 176 ≤ k := h
  unfold ct
  rw [if_neg (by omega), if_neg (by omega), if_neg (by omega), if_neg (by omega)]
theorem ct_bench (G : Gx) (f : Nat → Int32) (g : Nat → Int64) : ct G 0 f g = some (.inr (9, [.ref (G.2.1 1), .ref (G.2.1 5), .ref (G.2.1 8), .ref (G.2.1 12), .ref (G.2.1 18), .ref (G.2.1 21), .ref (G.2.1 23), .int (f 7), .int (f 8), .int (f 9), .int (f 10), .int (f 11), .int (f 12)])) := rfl
theorem ct_shelf (G : Gx) (f : Nat → Int32) (g : Nat → Int64) : ct G 1 f g = some (.inr (5, [.ref (G.2.1 2), .ref (G.2.1 3), .ref (G.2.1 4)])) := rfl
theorem ct_kinds (G : Gx) (f : Nat → Int32) (g : Nat → Int64) : ct G 2 f g = some (.inl (G.2.2 0, 24, .inl f)) := rfl
theorem ct_clocks (G : Gx) (f : Nat → Int32) (g : Nat → Int64) : ct G 3 f g = some (.inl (G.2.2 2, 24, .inr (.inr (.inr (.inr (fun i => some (G.2.1 (80 + i)))))))) := rfl
theorem ct_links (G : Gx) (f : Nat → Int32) (g : Nat → Int64) : ct G 4 f g = some (.inl (G.2.2 3, 24, .inr (.inr (.inr (.inr (fun i => some (G.2.1 (104 + i)))))))) := rfl
theorem ct_told (G : Gx) (f : Nat → Int32) (g : Nat → Int64) : ct G 5 f g = some (.inr (7, [.ref (G.2.1 6), .ref (G.2.1 7)])) := rfl
theorem ct_clockRows (G : Gx) (f : Nat → Int32) (g : Nat → Int64) : ct G 6 f g = some (.inl (G.2.2 4, 5, .inr (.inr (.inr (.inr (fun i => some (G.2.1 (24 + i)))))))) := rfl
theorem ct_paperRows (G : Gx) (f : Nat → Int32) (g : Nat → Int64) : ct G 7 f g = some (.inl (G.2.2 4, 6, .inr (.inr (.inr (.inr (fun i => some (G.2.1 (29 + i)))))))) := rfl
theorem ct_steps (G : Gx) (f : Nat → Int32) (g : Nat → Int64) : ct G 8 f g = some (.inr (6, [.ref (G.2.1 9), .ref (G.2.1 10), .ref (G.2.1 11), .int (f 3)])) := rfl
theorem ct_hours (G : Gx) (f : Nat → Int32) (g : Nat → Int64) : ct G 9 f g = some (.inl (G.2.2 0, 100, .inl f)) := rfl
theorem ct_places (G : Gx) (f : Nat → Int32) (g : Nat → Int64) : ct G 10 f g = some (.inl (G.2.2 0, 100, .inl f)) := rfl
theorem ct_misses (G : Gx) (f : Nat → Int32) (g : Nat → Int64) : ct G 11 f g = some (.inl (G.2.2 0, 100, .inl f)) := rfl
theorem ct_ways (G : Gx) (f : Nat → Int32) (g : Nat → Int64) : ct G 12 f g = some (.inr (8, [.ref (G.2.1 1), .ref (G.2.1 13), .ref (G.2.1 14), .ref (G.2.1 15), .ref (G.2.1 16), .ref (G.2.1 17), .int (f 6)])) := rfl
theorem ct_queue (G : Gx) (f : Nat → Int32) (g : Nat → Int64) : ct G 13 f g = some (.inl (G.2.2 0, 24, .inl f)) := rfl
theorem ct_lengths (G : Gx) (f : Nat → Int32) (g : Nat → Int64) : ct G 14 f g = some (.inl (G.2.2 0, 24, .inl f)) := rfl
theorem ct_sums (G : Gx) (f : Nat → Int32) (g : Nat → Int64) : ct G 15 f g = some (.inl (G.2.2 0, 24, .inl f)) := rfl
theorem ct_lastLinks (G : Gx) (f : Nat → Int32) (g : Nat → Int64) : ct G 16 f g = some (.inl (G.2.2 0, 24, .inl f)) := rfl
theorem ct_ahead (G : Gx) (f : Nat → Int32) (g : Nat → Int64) : ct G 17 f g = some (.inl (G.2.2 0, 24, .inl f)) := rfl
theorem ct_fore (G : Gx) (f : Nat → Int32) (g : Nat → Int64) : ct G 18 f g = some (.inr (2, [.ref (G.2.1 5), .ref (G.2.1 19), .ref (G.2.1 20), .long (g 3), .int (f 4), .long (g 5), .long (g 6)])) := rfl
theorem ct_xs (G : Gx) (f : Nat → Int32) (g : Nat → Int64) : ct G 19 f g = some (.inr (3, [.int (f 0), .long (g 1), .long (g 2), .long (g 3), .long (g 4)])) := rfl
theorem ct_gains (G : Gx) (f : Nat → Int32) (g : Nat → Int64) : ct G 20 f g = some (.inr (3, [.int (f 0), .long (g 1), .long (g 2), .long (g 3), .long (g 4)])) := rfl
theorem ct_closing (G : Gx) (f : Nat → Int32) (g : Nat → Int64) : ct G 21 f g = some (.inr (1, [.ref (G.2.1 1), .ref (G.2.1 12), .ref (G.2.1 5), .ref (G.2.1 18), .ref (G.2.1 8), .ref (G.2.1 22), .int (f 6)])) := rfl
theorem ct_fullWeights (G : Gx) (f : Nat → Int32) (g : Nat → Int64) : ct G 22 f g = some (.inl (G.2.2 0, 24, .inl f)) := rfl
theorem ct_wayTold (G : Gx) (f : Nat → Int32) (g : Nat → Int64) : ct G 23 f g = some (.inl (G.2.2 0, 24, .inl f)) := rfl
theorem ct_cr0 (G : Gx) (f : Nat → Int32) (g : Nat → Int64) : ct G 24 f g = some (.inl (G.2.2 0, 4800, .inl f)) := rfl
theorem ct_cr1 (G : Gx) (f : Nat → Int32) (g : Nat → Int64) : ct G 25 f g = some (.inl (G.2.2 0, 4800, .inl f)) := rfl
theorem ct_cr2 (G : Gx) (f : Nat → Int32) (g : Nat → Int64) : ct G 26 f g = some (.inl (G.2.2 0, 4800, .inl f)) := rfl
theorem ct_cr3 (G : Gx) (f : Nat → Int32) (g : Nat → Int64) : ct G 27 f g = some (.inl (G.2.2 0, 4800, .inl f)) := rfl
theorem ct_cr4 (G : Gx) (f : Nat → Int32) (g : Nat → Int64) : ct G 28 f g = some (.inl (G.2.2 0, 4800, .inl f)) := rfl
theorem ct_pr0 (G : Gx) (f : Nat → Int32) (g : Nat → Int64) : ct G 29 f g = some (.inl (G.2.2 0, 200, .inl f)) := rfl
theorem ct_pr1 (G : Gx) (f : Nat → Int32) (g : Nat → Int64) : ct G 30 f g = some (.inl (G.2.2 0, 200, .inl f)) := rfl
theorem ct_pr2 (G : Gx) (f : Nat → Int32) (g : Nat → Int64) : ct G 31 f g = some (.inl (G.2.2 0, 200, .inl f)) := rfl
theorem ct_pr3 (G : Gx) (f : Nat → Int32) (g : Nat → Int64) : ct G 32 f g = some (.inl (G.2.2 0, 200, .inl f)) := rfl
theorem ct_pr4 (G : Gx) (f : Nat → Int32) (g : Nat → Int64) : ct G 33 f g = some (.inl (G.2.2 0, 200, .inl f)) := rfl
theorem ct_pr5 (G : Gx) (f : Nat → Int32) (g : Nat → Int64) : ct G 34 f g = some (.inl (G.2.2 0, 200, .inl f)) := rfl
theorem ct_model (G : Gx) (f : Nat → Int32) (g : Nat → Int64) : ct G 35 f g = some (.inr (10, [.ref (G.2.1 36), .ref (G.2.1 37), .ref (G.2.1 38), .ref (G.2.1 39), .ref (G.2.1 40), .ref (G.2.1 41), .ref (G.2.1 42), .ref (G.2.1 43), .ref (G.2.1 44), .ref (G.2.1 45), .ref (G.2.1 46), .ref (G.2.1 47), .ref (G.2.1 48), .ref (G.2.1 49), .ref (G.2.1 50), .ref (G.2.1 51), .ref (G.2.1 52), .ref (G.2.1 53), .ref (G.2.1 54), .ref (G.2.1 55), .ref (G.2.1 56), .ref (G.2.1 57), .ref (G.2.1 58), .ref (G.2.1 59), .ref (G.2.1 60), .ref (G.2.1 61), .ref (G.2.1 62), .ref (G.2.1 63), .ref (G.2.1 64), .int (f 29), .int (f 30), .int (f 31), .int (f 32), .int (f 33), .ref (G.2.1 65), .ref (G.2.1 66), .ref (G.2.1 67), .int (f 37), .ref (G.2.1 68), .ref (G.2.1 69), .ref (G.2.1 70), .int (f 41), .int (f 42), .int (f 43), .int (f 44), .long (g 45), .long (g 46), .long (g 47), .ref (G.2.1 71)])) := rfl
theorem ct_m_kinds (G : Gx) (f : Nat → Int32) (g : Nat → Int64) : ct G 36 f g = some (.inl (G.2.2 0, 24, .inl f)) := rfl
theorem ct_m_one (G : Gx) (f : Nat → Int32) (g : Nat → Int64) : ct G 37 f g = some (.inl (G.2.2 0, 24, .inl f)) := rfl
theorem ct_m_two (G : Gx) (f : Nat → Int32) (g : Nat → Int64) : ct G 38 f g = some (.inl (G.2.2 0, 24, .inl f)) := rfl
theorem ct_m_taken (G : Gx) (f : Nat → Int32) (g : Nat → Int64) : ct G 39 f g = some (.inl (G.2.2 1, 24, .inl f)) := rfl
theorem ct_m_called (G : Gx) (f : Nat → Int32) (g : Nat → Int64) : ct G 40 f g = some (.inl (G.2.2 1, 24, .inl f)) := rfl
theorem ct_m_isOut (G : Gx) (f : Nat → Int32) (g : Nat → Int64) : ct G 41 f g = some (.inl (G.2.2 1, 24, .inl f)) := rfl
theorem ct_m_setting (G : Gx) (f : Nat → Int32) (g : Nat → Int64) : ct G 42 f g = some (.inl (G.2.2 0, 24, .inl f)) := rfl
theorem ct_m_since (G : Gx) (f : Nat → Int32) (g : Nat → Int64) : ct G 43 f g = some (.inl (G.2.2 0, 24, .inl f)) := rfl
theorem ct_m_suspect (G : Gx) (f : Nat → Int32) (g : Nat → Int64) : ct G 44 f g = some (.inl (G.2.2 0, 24, .inl f)) := rfl
theorem ct_m_stepMany (G : Gx) (f : Nat → Int32) (g : Nat → Int64) : ct G 45 f g = some (.inl (G.2.2 0, 24, .inl f)) := rfl
theorem ct_m_drifts (G : Gx) (f : Nat → Int32) (g : Nat → Int64) : ct G 46 f g = some (.inl (G.2.2 0, 24, .inl f)) := rfl
theorem ct_m_ways (G : Gx) (f : Nat → Int32) (g : Nat → Int64) : ct G 47 f g = some (.inl (G.2.2 0, 24, .inl f)) := rfl
theorem ct_m_there (G : Gx) (f : Nat → Int32) (g : Nat → Int64) : ct G 48 f g = some (.inl (G.2.2 0, 4824, .inl f)) := rfl
theorem ct_m_backs (G : Gx) (f : Nat → Int32) (g : Nat → Int64) : ct G 49 f g = some (.inl (G.2.2 0, 4824, .inl f)) := rfl
theorem ct_m_hasThere (G : Gx) (f : Nat → Int32) (g : Nat → Int64) : ct G 50 f g = some (.inl (G.2.2 1, 4824, .inl f)) := rfl
theorem ct_m_hasBack (G : Gx) (f : Nat → Int32) (g : Nat → Int64) : ct G 51 f g = some (.inl (G.2.2 1, 4824, .inl f)) := rfl
theorem ct_m_hasX (G : Gx) (f : Nat → Int32) (g : Nat → Int64) : ct G 52 f g = some (.inl (G.2.2 1, 4824, .inl f)) := rfl
theorem ct_m_hasF (G : Gx) (f : Nat → Int32) (g : Nat → Int64) : ct G 53 f g = some (.inl (G.2.2 1, 4824, .inl f)) := rfl
theorem ct_m_xs (G : Gx) (f : Nat → Int32) (g : Nat → Int64) : ct G 54 f g = some (.inl (G.2.2 0, 4824, .inl f)) := rfl
theorem ct_m_fs (G : Gx) (f : Nat → Int32) (g : Nat → Int64) : ct G 55 f g = some (.inl (G.2.2 0, 4824, .inl f)) := rfl
theorem ct_m_ms (G : Gx) (f : Nat → Int32) (g : Nat → Int64) : ct G 56 f g = some (.inl (G.2.2 0, 4824, .inl f)) := rfl
theorem ct_m_ws (G : Gx) (f : Nat → Int32) (g : Nat → Int64) : ct G 57 f g = some (.inl (G.2.2 0, 4824, .inl f)) := rfl
theorem ct_m_ds (G : Gx) (f : Nat → Int32) (g : Nat → Int64) : ct G 58 f g = some (.inl (G.2.2 0, 4824, .inl f)) := rfl
theorem ct_m_roots (G : Gx) (f : Nat → Int32) (g : Nat → Int64) : ct G 59 f g = some (.inl (G.2.2 0, 201, .inl f)) := rfl
theorem ct_m_presents (G : Gx) (f : Nat → Int32) (g : Nat → Int64) : ct G 60 f g = some (.inl (G.2.2 0, 201, .inl f)) := rfl
theorem ct_m_rests (G : Gx) (f : Nat → Int32) (g : Nat → Int64) : ct G 61 f g = some (.inl (G.2.2 0, 201, .inl f)) := rfl
theorem ct_m_offs (G : Gx) (f : Nat → Int32) (g : Nat → Int64) : ct G 62 f g = some (.inl (G.2.2 0, 201, .inl f)) := rfl
theorem ct_m_parts (G : Gx) (f : Nat → Int32) (g : Nat → Int64) : ct G 63 f g = some (.inl (G.2.2 0, 201, .inl f)) := rfl
theorem ct_m_sums (G : Gx) (f : Nat → Int32) (g : Nat → Int64) : ct G 64 f g = some (.inl (G.2.2 0, 201, .inl f)) := rfl
theorem ct_m_stepHour (G : Gx) (f : Nat → Int32) (g : Nat → Int64) : ct G 65 f g = some (.inl (G.2.2 0, 100, .inl f)) := rfl
theorem ct_m_stepPlace (G : Gx) (f : Nat → Int32) (g : Nat → Int64) : ct G 66 f g = some (.inl (G.2.2 0, 100, .inl f)) := rfl
theorem ct_m_stepMissed (G : Gx) (f : Nat → Int32) (g : Nat → Int64) : ct G 67 f g = some (.inl (G.2.2 0, 100, .inl f)) := rfl
theorem ct_m_far (G : Gx) (f : Nat → Int32) (g : Nat → Int64) : ct G 68 f g = some (.inl (G.2.2 0, 24, .inl f)) := rfl
theorem ct_m_going (G : Gx) (f : Nat → Int32) (g : Nat → Int64) : ct G 69 f g = some (.inl (G.2.2 0, 24, .inl f)) := rfl
theorem ct_m_gone (G : Gx) (f : Nat → Int32) (g : Nat → Int64) : ct G 70 f g = some (.inl (G.2.2 0, 24, .inl f)) := rfl
theorem ct_m_present (G : Gx) (f : Nat → Int32) (g : Nat → Int64) : ct G 71 f g = some (.inl (G.2.2 1, 24, .inl f)) := rfl
theorem ct_clock {p : Nat} (h : p < 24) (G : Gx) (f : Nat → Int32) (g : Nat → Int64) : ct G (80 + p) f g = some (.inr (0, [.int (nI p), .int (f 1), .int (f 2), .int (f 3), .int (f 4), .int (f 5), .int (f 6), .int (f 7), .int (f 8), .int (f 9), .int (f 10), .int (f 11)])) := by
  unfold ct
  rw [if_neg (by omega), if_pos (by omega), Nat.add_sub_cancel_left]
theorem ct_link {p : Nat} (h : p < 24) (G : Gx) (f : Nat → Int32) (g : Nat → Int64) : ct G (104 + p) f g = some (.inr (4, [.int (f 0), .int (f 1), .int (f 2), .int (f 3), .ref (G.2.1 (128 + p)), .ref (G.2.1 (152 + p))])) := by
  unfold ct
  rw [if_neg (by omega), if_neg (by omega), if_pos (by omega), show 104 + p + 24 = 128 + p by omega, show 104 + p + 48 = 152 + p by omega]
theorem ct_there {p : Nat} (h : p < 24) (G : Gx) (f : Nat → Int32) (g : Nat → Int64) : ct G (128 + p) f g = some (.inl (G.2.2 0, 201, .inl f)) := by
  unfold ct
  rw [if_neg (by omega), if_neg (by omega), if_neg (by omega), if_pos (by omega)]
theorem ct_back {p : Nat} (h : p < 24) (G : Gx) (f : Nat → Int32) (g : Nat → Int64) : ct G (152 + p) f g = some (.inl (G.2.2 0, 201, .inl f)) := by
  unfold ct
  rw [if_neg (by omega), if_neg (by omega), if_neg (by omega), if_pos (by omega)]
theorem ct_cr {p : Nat} (h : p < 5) (G : Gx) (f : Nat → Int32) (g : Nat → Int64) : ct G (24 + p) f g = some (.inl (G.2.2 0, 4800, .inl f)) := by
  match p, h with
  | 0, _ => rfl
  | 1, _ => rfl
  | 2, _ => rfl
  | 3, _ => rfl
  | 4, _ => rfl
theorem ct_pr {p : Nat} (h : p < 6) (G : Gx) (f : Nat → Int32) (g : Nat → Int64) : ct G (29 + p) f g = some (.inl (G.2.2 0, 200, .inl f)) := by
  match p, h with
  | 0, _ => rfl
  | 1, _ => rfl
  | 2, _ => rfl
  | 3, _ => rfl
  | 4, _ => rfl
  | 5, _ => rfl
/-- the heap holds the numbers -/
def RepH (G : Gx) (σ : SI) (τ : SL) (H : Heap) : Prop := ∀ (k : Nat) (e : va_E), ct G k (σ k) (τ k) = some e → va_at G.1 vwCl (G.2.1 k, e) H
def GOk (G : Gx) (A : Nat → Prop) : Prop := (∀ i j : Nat, i < NID → j < NID → G.2.1 i = G.2.1 j → i = j) ∧ ∀ i : Nat, i < NID → A (G.2.1 i)
def KU (G : Gx) (U : State) : Prop := va_K G.1 vwCl (tysG G) U ∧ NW U
def BU (G : Gx) (u : SI × SL) (U : State) : Prop := RepH G u.1 u.2 U.heap ∧ KU G U
def up2 {α : Type} (σ : Nat → Nat → α) (k j : Nat) (x : α) : Nat → Nat → α := fun k' j' => if k' = k then (if j' = j then x else σ k j') else σ k' j'
theorem up2_at {α : Type} (σ : Nat → Nat → α) (k j : Nat) (x : α) : up2 σ k j x k = fun j' => if j' = j then x else σ k j' := by funext j'; simp [up2]
theorem up2_ne {α : Type} {σ : Nat → Nat → α} {k j : Nat} {x : α} {k' : Nat} (h : k' ≠ k) : up2 σ k j x k' = σ k' := by funext j'; simp [up2, h]
theorem up2_o {α : Type} {σ : Nat → Nat → α} {k j : Nat} {x : α} {k' j' : Nat} (h : k' ≠ k) : up2 σ k j x k' j' = σ k' j' := by simp [up2, h]
theorem up2_s {α : Type} {σ : Nat → Nat → α} {k j : Nat} {x : α} : up2 σ k j x k j = x := by simp [up2]
theorem up2_n {α : Type} {σ : Nat → Nat → α} {k j : Nat} {x : α} {j' : Nat} (h : j' ≠ j) : up2 σ k j x k j' = σ k j' := by simp [up2, h]
theorem KU.moved {G : Gx} {u U : State} (hW : u.WarmedH U.vm) (h : KU G u) : KU G U := ⟨va_K.moved hW.alike h.1, h.2.warm hW⟩
theorem KU.same {G : Gx} {u U : State} (he : u.vm = U.vm) (h : KU G u) : KU G U := ⟨va_K.moved (by rw [he]; exact Vm.Alike.refl _) h.1, h.2.same he⟩
theorem ct_lt {G : Gx} {k : Nat} {f : Nat → Int32} {g : Nat → Int64} {e : va_E} (h : ct G k f g = some e) : k < NID := by
  rcases Nat.lt_or_ge k NID with q | q
  · exact q
  · rw [ct_none q] at h; cases h
/-- one cell is written, all else stays -/
theorem RepH.upd {G : Gx} {A : Nat → Prop} {σ σ' : SI} {τ τ' : SL} {H H1 : Heap} {k : Nat} {e e' : va_E} (hR : RepH G σ τ H) (hG : GOk G A) (he : ct G k (σ k) (τ k) = some e) (hs : ∀ k', k' ≠ k → σ' k' = σ k' ∧ τ' k' = τ k')
    (he' : ct G k (σ' k) (τ' k) = some e') (hat : va_at G.1 vwCl (G.2.1 k, e') H1) (oq : ∀ q : Nat, q ≠ G.2.1 k → H1[q]? = H[q]?) : RepH G σ' τ' H1 := by
  intro k' e2 h2
  by_cases hk : k' = k
  · subst hk
    rw [he'] at h2
    cases h2
    exact hat
  · obtain ⟨h3, h4⟩ := hs k' hk
    rw [h3, h4] at h2
    exact (hR k' e2 h2).kept (oq _ (fun q => hk (hG.1 _ _ (ct_lt h2) (ct_lt he) q)))
/-- what stands at a method's start, apart from the heap -/
def Cx (p : Program) (s : State) (m : MethodId) (args : Array Value) (meth : Method) (c : Code) (cc : ByteArray) (nL : Nat) (own : String) (ret : Option FieldType) : Prop :=
  p.tables.exec = Jvm.exec ∧ c.code = cc ∧ c.maxLocals = nL ∧ s.vm.findClass own = some m.cls ∧ (∀ w ∈ TB, w.before args s = true) ∧ meth.locks = false ∧ meth.sig.returnType = ret
section LAYER
variable {p : Program} {l : Launch} {e : Env} {R : Room} {s : State} {m : MethodId} {args : Array Value} {below : List Frame} {meth : Method} {c : Code} {H : Heap} {locs : List Loc} {cells slots : Nat} {Q : State → Prop}
variable {cc : ByteArray} {nL : Nat} {own : String} {ret : Option FieldType} {pc : Nat} {ls : Array Slot} {rest : List Value} {G : Gx} {A : Nat → Prop} {σ : SI} {τ : SL} {H0 : Heap}
theorem Cx.x (h : Cx p s m args meth c cc nL own ret) : p.tables.exec = Jvm.exec := h.1
theorem Cx.b (h : Cx p s m args meth c cc nL own ret) : c.code = cc := h.2.1
theorem Cx.ow (h : Cx p s m args meth c cc nL own ret) : s.vm.findClass own = some m.cls := h.2.2.2.1
theorem Cx.ts (h : Cx p s m args meth c cc nL own ret) : ∀ w ∈ TB, w.before args s = true := h.2.2.2.2.1
theorem Cx.lk (h : Cx p s m args meth c cc nL own ret) : meth.locks = false := h.2.2.2.2.2.1
theorem Cx.rt (h : Cx p s m args meth c cc nL own ret) : meth.sig.returnType = ret := h.2.2.2.2.2.2
theorem Cx.ml (h : Cx p s m args meth c cc nL own ret) : c.maxLocals = nL := h.2.2.1
/-- a field is read -/
theorem rget (hC : Cx p s m args meth c cc nL own ret) (hK : KU G s) (hR : RepH G σ τ H) {k : Nat} {C : String} {T : u_T} {N ci index : Nat} {fs : List Value} (he : ct G k (σ k) (τ k) = some (.inr (ci, fs))) (hc : vwCl[ci]? = some (C, T, N)) (hin : ∀ w ∈ u_ws C T N, w ∈ TB) (j : Nat) (hj : j < N)
    (hl : Cond.fieldLink own index (T j).1 (T j).2.1 (T j).2.2.1 ∈ TB) {v : Value} (hv : fs[j]? = some v) (hdg : decode cc pc = .ok (.getfield index, 3))
    (kk : W p l e R s m args below meth c H locs cells slots Q (F0 m (pc + 3) ls (v :: rest))) : W p l e R s m args below meth c H locs cells slots Q (F0 m pc ls (.ref (G.2.1 k) :: rest)) :=
  va_get (D := G.1) (cl := vwCl) (ws := [(G.2.1 k, .inr (ci, fs))]) hC.x hC.b hC.ts hin hC.ow hK.1 (fun i q hq => by
    match i, hq with
    | 0, hq => cases hq; exact hR k _ he
    | i + 1, hq => simp at hq) 0 rfl hc j hj (hC.ts _ hl) (fun _ h => h) hv hdg kk
/-- a field that isn't final is written -/
theorem rput (hC : Cx p s m args meth c cc nL own ret) (hK : KU G s) (hG : GOk G A) (hR : RepH G σ τ H) (hS0 : va_S A H0 H locs) {k : Nat} {C : String} {T : u_T} {N ci index : Nat} {fs fs' : List Value} (he : ct G k (σ k) (τ k) = some (.inr (ci, fs))) (hc : vwCl[ci]? = some (C, T, N)) (hin : ∀ w ∈ u_ws C T N, w ∈ TB)
    (ty0 : Nat → FieldType) (hty : ∀ k, k < N → parseFieldDescriptor (T k).2.2.1 = some (ty0 k)) (hnm : ∀ a, a < N → ∀ b, b < N → a ≠ b → (T a).2.1 ≠ (T b).2.1) (j : Nat) (hj : j < N)
    (hl : Cond.fieldLink own index (T j).1 (T j).2.1 (T j).2.2.1 ∈ TB) (hfin : (T j).2.2.2 = false) {v : Value} (hn : narrow (ty0 j) v = v) (hfit : fits (ty0 j) v = true) (hlen : j < fs.length) (hset : fs.set j v = fs')
    (σ' : SI) (τ' : SL) (he' : ct G k (σ' k) (τ' k) = some (.inr (ci, fs'))) (hs : ∀ k', k' ≠ k → σ' k' = σ k' ∧ τ' k' = τ k') (hdg : decode cc pc = .ok (.putfield index, 3))
    (kk : ∀ (H1 : Heap) (locs1 : List Loc), RepH G σ' τ' H1 → va_S A H0 H1 locs1 → W p l e R s m args below meth c H1 locs1 cells slots Q (F0 m (pc + 3) ls rest)) : W p l e R s m args below meth c H locs cells slots Q (F0 m pc ls (v :: .ref (G.2.1 k) :: rest)) := by
  subst hset
  have hap := va_apart (own := own) hC.ts hin ty0 hty hnm hK.1 hc
  obtain ⟨r, h1, cell, q1, q2, q3, q4⟩ := hR k _ he
  have hr : r = (C, T, N) := Option.some.inj (h1.symm.trans hc)
  subst hr
  obtain ⟨hS, hfc, kC, hkC, hkind⟩ := hK.1.1 ci _ hc
  obtain ⟨cf, kf, fi, f, hi, hsl⟩ := hS j hj
  have hlay := hC.ts _ (hin _ (u_in_lay hj))
  unfold u_lay at hlay
  rw [if_neg (by rw [hfin]; decide)] at hlay
  have hst := (u_facts hfc hkC (u_lays hC.ts hin hj) hi).1
  have h6 := u_store hfc hkC hkind hlay hi (hty j hj) hn hfit
  refine W.putK hC.x hC.b (f := f) ⟨hC.ow, hC.ts _ hl, ⟨_, _, _, hi⟩, hst⟩ (by rw [q2]; exact h6) q1 q3 (by rw [hsl]; exact k2_hasslot (q4 j hj)) rfl rfl hdg fun H' e1 e2 e3 => ?_
  rw [hsl] at e1 ⊢
  exact kk H' _ (hR.upd hG he hs he' ⟨_, hc, t_OB.to (V := updV (vp_V fs) j v) ⟨_, e1, q2, q3, t_set q4 hap hj v⟩ (fun i _ => vp_updV_set hlen v i)⟩ e3) (hS0.put e2 e3 (hG.2 k (ct_lt he)))
/-- an int array is read -/
theorem rald (hC : Cx p s m args meth c cc nL own ret) (hK : KU G s) (hR : RepH G σ τ H) {k n : Nat} {f : Nat → Int32} (he : ct G k (σ k) (τ k) = some (.inl (G.2.2 0, n, .inl f))) {i : Int32} (hin : vp_in i n) (hdg : decode cc pc = .ok (.iaload, 1))
    (kk : W p l e R s m args below meth c H locs cells slots Q (F0 m (pc + 1) ls (.int (f i.toNatClampNeg) :: rest))) : W p l e R s m args below meth c H locs cells slots Q (F0 m pc ls (.int i :: .ref (G.2.1 k) :: rest)) :=
  va_iald (ws := [(G.2.1 k, _)]) hC.x hC.b hK.1 (fun i q hq => by
    match i, hq with
    | 0, hq => cases hq; exact hR k _ he
    | i + 1, hq => simp at hq) 0 0 rfl rfl hin hdg kk
theorem rzald (hC : Cx p s m args meth c cc nL own ret) (hK : KU G s) (hR : RepH G σ τ H) {k n : Nat} {f : Nat → Int32} (he : ct G k (σ k) (τ k) = some (.inl (G.2.2 1, n, .inl f))) {i : Int32} (hin : vp_in i n) (hdg : decode cc pc = .ok (.baload, 1))
    (kk : W p l e R s m args below meth c H locs cells slots Q (F0 m (pc + 1) ls (.int (f i.toNatClampNeg) :: rest))) : W p l e R s m args below meth c H locs cells slots Q (F0 m pc ls (.int i :: .ref (G.2.1 k) :: rest)) :=
  va_zald (ws := [(G.2.1 k, _)]) hC.x hC.b hK.1 (fun i q hq => by
    match i, hq with
    | 0, hq => cases hq; exact hR k _ he
    | i + 1, hq => simp at hq) 0 1 rfl rfl hin hdg kk
/-- an array of references is read -/
theorem raald (hC : Cx p s m args meth c cc nL own ret) (hK : KU G s) (hR : RepH G σ τ H) {k n t : Nat} {f : Nat → Option Nat} (ht : t < 5) (hr : (ty_of t).isReference = true) (he : ct G k (σ k) (τ k) = some (.inl (G.2.2 t, n, .inr (.inr (.inr (.inr f)))))) {i : Int32} (hin : vp_in i n) {v : Value} (hv : va_rf (f i.toNatClampNeg) = v) (hdg : decode cc pc = .ok (.aaload, 1))
    (kk : W p l e R s m args below meth c H locs cells slots Q (F0 m (pc + 1) ls (v :: rest))) : W p l e R s m args below meth c H locs cells slots Q (F0 m pc ls (.int i :: .ref (G.2.1 k) :: rest)) := by
  subst hv
  have hlt : i.toNatClampNeg < n := Nat.not_le.mp fun q => hin (Or.inr q)
  have hA : ArrOfT s (G.2.2 t) (ty_of t) := by
    match t, ht with
    | 0, _ => exact (hK.1.2 0 _ rfl).1
    | 1, _ => exact (hK.1.2 1 _ rfl).1
    | 2, _ => exact (hK.1.2 2 _ rfl).1
    | 3, _ => exact (hK.1.2 3 _ rfl).1
    | 4, _ => exact (hK.1.2 4 _ rfl).1
  have hcell : H[G.2.1 k]? = some (vp_cell (G.2.2 t) (n, .inr (.inr (.inr (.inr f))))) := hR k _ he
  rw [vp_cell_q] at hcell
  exact W.aald (v := va_rf (f i.toNatClampNeg)) (ty := ty_of t) hC.x hC.b hcell (hA n (fun j => va_rf (f j))) hr (fun q => by cases q) (by rw [arrV_size]; exact hin) (by rw [arrV_read _ _ hlt]) rfl rfl hdg kk
theorem ralen (hC : Cx p s m args meth c cc nL own ret) (hK : KU G s) (hR : RepH G σ τ H) {k t : Nat} {x : vp_A} (ht : t < 5) (he : ct G k (σ k) (τ k) = some (.inl (G.2.2 t, x))) {v : Int32} (hv : Int32.ofNat x.1 = v) (hdg : decode cc pc = .ok (.arraylength, 1))
    (kk : W p l e R s m args below meth c H locs cells slots Q (F0 m (pc + 1) ls (.int v :: rest))) : W p l e R s m args below meth c H locs cells slots Q (F0 m pc ls (.ref (G.2.1 k) :: rest)) :=
  va_alen (ws := [(G.2.1 k, .inl (G.2.2 t, x))]) (t0 := t) (cA := G.2.2 t) (x := x) (ty := ty_of t) hC.x hC.b hK.1 (fun i q hq => by
    match i, hq with
    | 0, hq => cases hq; exact hR k _ he
    | i + 1, hq => simp at hq) 0 rfl (by
    match t, ht with
    | 0, _ => rfl
    | 1, _ => rfl
    | 2, _ => rfl
    | 3, _ => rfl
    | 4, _ => rfl) hv hdg kk
/-- an int array is written -/
theorem rast (hC : Cx p s m args meth c cc nL own ret) (hK : KU G s) (hG : GOk G A) (hR : RepH G σ τ H) (hS0 : va_S A H0 H locs) {k n : Nat} (he : ∀ f, ct G k f (τ k) = some (.inl (G.2.2 0, n, .inl f))) {i x : Int32} (hin : vp_in i n) (hdg : decode cc pc = .ok (.iastore, 1))
    (kk : ∀ (H1 : Heap) (locs1 : List Loc), RepH G (up2 σ k i.toNatClampNeg x) τ H1 → va_S A H0 H1 locs1 → W p l e R s m args below meth c H1 locs1 cells slots Q (F0 m (pc + 1) ls rest)) : W p l e R s m args below meth c H locs cells slots Q (F0 m pc ls (.int x :: .int i :: .ref (G.2.1 k) :: rest)) := by
  have hcell : H[G.2.1 k]? = some (vp_cell (G.2.2 0) (n, .inl (σ k))) := hR k _ (he _)
  rw [vp_cell_i] at hcell
  refine W.iast hC.x hC.b hcell ((hK.1.2 0 _ rfl).1 n (fun j => .int (σ k j))) (fun q => by cases q) (by rw [arrV_size]; exact hin) rfl rfl hdg fun H1 e1 z oq => ?_
  refine kk H1 _ (hR.upd hG (he _) (fun k' hk' => ⟨up2_ne hk', rfl⟩) (he _) ?_ oq) (hS0.put z oq (hG.2 k (ct_lt (he (σ k)))))
  show H1[G.2.1 k]? = some (vp_cell _ _)
  rw [e1, vp_cell_i, arrV_store, up2_at]
  congr 2
  funext q
  by_cases hq : q = i.toNatClampNeg
  · subst hq
    simp [updV]
  · simp [updV, hq]
theorem and1 {x : Int32} (h : x = 0 ∨ x = 1) : x &&& 1 = x := by rcases h with rfl | rfl <;> rfl
theorem rzast (hC : Cx p s m args meth c cc nL own ret) (hK : KU G s) (hG : GOk G A) (hR : RepH G σ τ H) (hS0 : va_S A H0 H locs) {k n : Nat} (he : ∀ f, ct G k f (τ k) = some (.inl (G.2.2 1, n, .inl f))) {i x : Int32} (hin : vp_in i n) (hx : x = 0 ∨ x = 1) (hdg : decode cc pc = .ok (.bastore, 1))
    (kk : ∀ (H1 : Heap) (locs1 : List Loc), RepH G (up2 σ k i.toNatClampNeg x) τ H1 → va_S A H0 H1 locs1 → W p l e R s m args below meth c H1 locs1 cells slots Q (F0 m (pc + 1) ls rest)) : W p l e R s m args below meth c H locs cells slots Q (F0 m pc ls (.int x :: .int i :: .ref (G.2.1 k) :: rest)) := by
  have hcell : H[G.2.1 k]? = some (vp_cell (G.2.2 1) (n, .inl (σ k))) := hR k _ (he _)
  rw [vp_cell_i] at hcell
  refine W.zast hC.x hC.b hcell ((hK.1.2 1 _ rfl).1 n (fun j => .int (σ k j))) (fun q => by cases q) (by rw [arrV_size]; exact hin) rfl rfl hdg fun H1 e1 z oq => ?_
  refine kk H1 _ (hR.upd hG (he _) (fun k' hk' => ⟨up2_ne hk', rfl⟩) (he _) ?_ oq) (hS0.put z oq (hG.2 k (ct_lt (he (σ k)))))
  show H1[G.2.1 k]? = some (vp_cell _ _)
  rw [e1, vp_cell_i, arrV_store, up2_at]
  congr 2
  funext q
  by_cases hq : q = i.toNatClampNeg
  · subst hq
    simp [updV, narrow, and1 hx]
  · simp [updV, hq]
end LAYER
/-! contracts: no cell is made; the heap is the typed one -/
abbrev MI (l : Launch) (G : Gx) (A : Nat → Prop) (d : Nat) (y : MethodName) (b : ByteArray) (n : Nat) (r : Option FieldType) (av : List Value) (u : SI × SL) (post : Int32 → SI × SL → Prop) : Prop :=
  Met l y (wsOf y b n r) (rmD d) (va_Pc av (BU G u)) (va_Qi post (BU G) A) 0 0 A
abbrev ML (l : Launch) (G : Gx) (A : Nat → Prop) (d : Nat) (y : MethodName) (b : ByteArray) (n : Nat) (r : Option FieldType) (av : List Value) (u : SI × SL) (post : Int64 → SI × SL → Prop) : Prop :=
  Met l y (wsOf y b n r) (rmD d) (va_Pc av (BU G u)) (va_Ql post (BU G) A) 0 0 A
abbrev MV (l : Launch) (G : Gx) (A : Nat → Prop) (d : Nat) (y : MethodName) (b : ByteArray) (n : Nat) (r : Option FieldType) (av : List Value) (u : SI × SL) (post : SI × SL → Prop) : Prop :=
  Met l y (wsOf y b n r) (rmD d) (va_Pc av (BU G u)) (va_Qv post (BU G) A) 0 0 A
abbrev MR (l : Launch) (G : Gx) (A : Nat → Prop) (d : Nat) (y : MethodName) (b : ByteArray) (n : Nat) (r : Option FieldType) (av : List Value) (u : SI × SL) (post : Option Nat → SI × SL → Prop) : Prop :=
  Met l y (wsOf y b n r) (rmD d) (va_Pc av (BU G u)) (va_Qq post (BU G) A) 0 0 A
theorem bu_blind {G : Gx} {u : SI × SL} {av : List Value} : FrameBlind (va_Pc av (BU G u)) := fun _ _ _ _ q => ⟨q.1, q.2.1, q.2.2.same rfl⟩
/-- a contract out of the walk of the body -/
theorem met_of {l : Launch} {G : Gx} {d : Nat} {y : MethodName} {b : ByteArray} {n : Nat} {r : Option FieldType} {av : List Value} {u : SI × SL} {Qc : Array Value → State → Outcome → State → Prop} {free : Addr → Prop} {own : String} (hy : plainFor y = true) (ho : y.cls = own)
    (lv : List (Nat × Value)) (hlv : lv_args 0 av = lv) (hn : (lg_sl av).length ≤ n)
    (body : ∀ p e s m args below meth c ls, Cx p s m args meth c b n own r → KU G s → RepH G u.1 u.2 s.heap → lv_has ls n lv →
      W p l e (rmD d) s m args below meth c s.heap [] 0 0 (MQ below Qc args s 0 0 free) (F0 m 0 ls [])) : Met l y (wsOf y b n r) (rmD d) (va_Pc av (BU G u)) Qc 0 0 free := by
  refine MetFree.of_bodySF (code := b) (maxLocals := n) (ret := r) hy ?_ ?_
  · intro args s m h hm
    obtain ⟨meth, c, h1, h2, h3, h4, h5, h6, -, -⟩ := Cond.code_spec hm (atoms_spec (ws := wsOf y b n r) h _ List.mem_cons_self)
    exact ⟨meth, c, h1, h2, h3, h4, h5, h6⟩
  · intro p e s m args below meth c s₁ B hml hv _
    obtain ⟨rfl, hR, hK⟩ := hv
    have hts := atoms_spec (ws := wsOf y b n r) B.pre
    have h := body p e s m av.toArray below meth c _ ⟨B.exec, B.bytes, hml, ho ▸ findClass_of_methodNamed B.named, fun w hw => hts w (List.mem_cons_of_mem _ hw), B.notSynchronized, B.returns⟩ hK hR (hlv ▸ lv_entry av hn)
    rw [← lg_entry_eq] at h
    have hh0 : s₁.heap = s.heap := by rw [B.state]; rfl
    obtain ⟨t, a1, o, b1, b2, b3⟩ := h s₁ hh0 (Stand.of_body B)
    exact ⟨t, o, a1, b1, b2, ⟨b3.1, b3.2⟩⟩
section LAYER2
variable {p : Program} {l : Launch} {e : Env} {R : Room} {s : State} {m : MethodId} {args : Array Value} {below : List Frame} {meth : Method} {c : Code} {H : Heap} {locs : List Loc} {cells slots : Nat} {Q : State → Prop}
variable {cc : ByteArray} {nL : Nat} {own : String} {ret : Option FieldType} {pc : Nat} {ls : Array Slot} {rest : List Value} {G : Gx} {A : Nat → Prop} {σ : SI} {τ : SL}
theorem bu_end (hK : KU G s) (hR : RepH G σ τ H) {t : State} (ht : t.heap = H) (hW : s.WarmedH t.vm) : BU G (σ, τ) t := ⟨by rw [ht]; exact hR, hK.moved hW⟩
theorem reti (hC : Cx p s m args meth c cc nL own (some .int)) (hK : KU G s) (hR : RepH G σ τ H) (hS : va_S A s.heap H locs) {v : Int32} {post : Int32 → SI × SL → Prop} (hp : post v (σ, τ)) (hdg : decode cc pc = .ok (.ireturn, 1)) :
    W p l e R s m args below meth c H locs cells slots (MQ below (va_Qi post (BU G) A) args s cells slots A) (F0 m pc ls [.int v]) :=
  W.iret hC.x hC.b hC.rt (fun _ ht hW => ⟨⟨v, (σ, τ), rfl, hp, bu_end hK hR ht hW⟩, hS.F ht⟩) hS.2.2 hdg hC.lk
theorem retz (hC : Cx p s m args meth c cc nL own (some .boolean)) (hK : KU G s) (hR : RepH G σ τ H) (hS : va_S A s.heap H locs) {v : Int32} {post : Int32 → SI × SL → Prop} (hv : v = 0 ∨ v = 1) (hp : post v (σ, τ)) (hdg : decode cc pc = .ok (.ireturn, 1)) :
    W p l e R s m args below meth c H locs cells slots (MQ below (va_Qi post (BU G) A) args s cells slots A) (F0 m pc ls [.int v]) :=
  W.zret hC.x hC.b hC.rt (by rcases hv with rfl | rfl <;> rfl) (fun _ ht hW => ⟨⟨v, (σ, τ), rfl, hp, bu_end hK hR ht hW⟩, hS.F ht⟩) hS.2.2 hdg hC.lk
theorem retl (hC : Cx p s m args meth c cc nL own (some .long)) (hK : KU G s) (hR : RepH G σ τ H) (hS : va_S A s.heap H locs) {v : Int64} {post : Int64 → SI × SL → Prop} (hp : post v (σ, τ)) (hdg : decode cc pc = .ok (.lreturn, 1)) :
    W p l e R s m args below meth c H locs cells slots (MQ below (va_Ql post (BU G) A) args s cells slots A) (F0 m pc ls [.long v]) :=
  W.lret hC.x hC.b hC.rt (fun _ ht hW => ⟨⟨v, (σ, τ), rfl, hp, bu_end hK hR ht hW⟩, hS.F ht⟩) hS.2.2 hdg hC.lk
theorem retv (hC : Cx p s m args meth c cc nL own none) (hK : KU G s) (hR : RepH G σ τ H) (hS : va_S A s.heap H locs) {post : SI × SL → Prop} (hp : post (σ, τ)) (hdg : decode cc pc = .ok (.return_, 1)) :
    W p l e R s m args below meth c H locs cells slots (MQ below (va_Qv post (BU G) A) args s cells slots A) (F0 m pc ls []) :=
  W.vret hC.x hC.b hC.rt (fun _ ht hW => ⟨⟨(σ, τ), rfl, hp, bu_end hK hR ht hW⟩, hS.F ht⟩) hS.2.2 hdg hC.lk
theorem reta {C : String} (hC : Cx p s m args meth c cc nL own (some (.object C))) (hK : KU G s) (hR : RepH G σ τ H) (hS : va_S A s.heap H locs) {a : Nat} {post : Option Nat → SI × SL → Prop} (hp : post (some a) (σ, τ)) (hdg : decode cc pc = .ok (.areturn, 1)) :
    W p l e R s m args below meth c H locs cells slots (MQ below (va_Qq post (BU G) A) args s cells slots A) (F0 m pc ls [.ref a]) :=
  W.aret hC.x hC.b hC.rt (Or.inl ⟨_, rfl⟩) (Or.inr ⟨a, rfl⟩) (fun _ ht hW => ⟨⟨some a, (σ, τ), rfl, hp, bu_end hK hR ht hW⟩, hS.F ht⟩) hS.2.2 hdg hC.lk
theorem retn {C : String} (hC : Cx p s m args meth c cc nL own (some (.object C))) (hK : KU G s) (hR : RepH G σ τ H) (hS : va_S A s.heap H locs) {post : Option Nat → SI × SL → Prop} (hp : post none (σ, τ)) (hdg : decode cc pc = .ok (.areturn, 1)) :
    W p l e R s m args below meth c H locs cells slots (MQ below (va_Qq post (BU G) A) args s cells slots A) (F0 m pc ls [.null]) :=
  W.aret hC.x hC.b hC.rt (Or.inl ⟨_, rfl⟩) (Or.inl rfl) (fun _ ht hW => ⟨⟨none, (σ, τ), rfl, hp, bu_end hK hR ht hW⟩, hS.F ht⟩) hS.2.2 hdg hC.lk
end LAYER2
/-! calls -/
theorem gi_of {big : List Cond} {w : Cond} {ws : List Cond} (hb : ∀ w ∈ TB, w ∈ big) (h : w ∈ TB) (hr : GoodIn big ws) : GoodIn big (w :: ws) := fun x hx => by
  rcases List.mem_cons.mp hx with rfl | hx
  · exact ⟨hb _ h, good_of_word (TB_good h)⟩
  · exact hr x hx
theorem gi_tb {big : List Cond} (hb : ∀ w ∈ TB, w ∈ big) : GoodIn big TB := fun _ h => ⟨hb _ h, good_of_word (TB_good h)⟩
theorem call_b {R : Room} {s : State} {args : Array Value} {own : String} {index n d : Nat} {y : MethodName} {b : ByteArray} {maxL : Nat} {r : Option FieldType} (ht : ∀ w ∈ TB, w.before args s = true) (hc : Cond.code y b maxL r ∈ TB) (hini : Cond.initialized y.cls ∈ TB) (hl : Cond.methodLink own index y ∈ TB)
    (hd : y.cls ≠ "java/lang/invoke/MethodHandle" ∧ y.cls ≠ "java/lang/invoke/VarHandle" ∧ (parseMethodDescriptor y.desc).map (fun d => d.parameters.length) = some n) (hR : d + 1 ≤ R.frames ∧ 8 + (maxL + 11) + 40 * d ≤ R.locals) :
    CallB R s args own index y b maxL r (wsOf y b maxL r) (rmD d) 0 0 n :=
  callB_of (Ts := TB) n ht (gi_of (fun _ h => h) hc (gi_tb fun _ h => h)) rfl rfl rfl (ht _ hini) (ht _ hl) hd hR
theorem call_n {R : Room} {s : State} {args : Array Value} {own host : String} {index n d : Nat} {y : MethodName} {b : ByteArray} {maxL : Nat} {r : Option FieldType} (ht : ∀ w ∈ TB, w.before args s = true) (hc : Cond.code y b maxL r ∈ TB) (hini : Cond.initialized y.cls ∈ TB) (hl : va_Nw (.methodLinkNest own index y host) s)
    (hd : y.cls ≠ "java/lang/invoke/MethodHandle" ∧ y.cls ≠ "java/lang/invoke/VarHandle" ∧ (parseMethodDescriptor y.desc).map (fun d => d.parameters.length) = some n) (hR : d + 1 ≤ R.frames ∧ 8 + (maxL + 11) + 40 * d ≤ R.locals) :
    va_CN R s args own index y host b maxL r (wsOf y b maxL r) (rmD d) 0 0 n :=
  va_cnB (Ts := TB) n ht (gi_of (fun _ h => h) hc (gi_tb fun _ h => h)) rfl rfl rfl hl (ht _ hini) hd hR
section LAYER3
variable {p : Program} {l : Launch} {e : Env} {R : Room} {s : State} {m : MethodId} {args : Array Value} {below : List Frame} {meth : Method} {c : Code} {H : Heap} {locs : List Loc} {cells slots : Nat} {Q : State → Prop}
variable {cc : ByteArray} {nL : Nat} {own : String} {ret : Option FieldType} {pc : Nat} {ls : Array Slot} {rest : List Value} {G : Gx} {A : Nat → Prop} {σ : SI} {τ : SL} {H0 : Heap}
variable {y : MethodName} {b : ByteArray} {maxL n d index : Nat} {r : Option FieldType} {Qc : Array Value → State → Outcome → State → Prop} {C : String} {As : List Value} {st0 : List Value}
/-- a virtual call, run -/
theorem runV (hC : Cx p s m args meth c cc nL own ret) (hK : KU G s) (hR : RepH G σ τ H) (hls : ls.size = nL) {k : Nat} (hM : Met l y (wsOf y b maxL r) (rmD d) (va_Pc (.ref (G.2.1 k) :: As) (BU G (σ, τ))) Qc 0 0 A)
    (cb : CallB R s args own index y b maxL r (wsOf y b maxL r) (rmD d) 0 0 n) (hi : Cond.instanceMethod y ∈ TB) (hse : Cond.selects C y y ∈ TB) {ci N : Nat} {T : u_T} {fs : List Value} (he : ct G k (σ k) (τ k) = some (.inr (ci, fs))) (hc : vwCl[ci]? = some (C, T, N))
    (hn : As.length = n) (hst : st0 = As.reverse ++ .ref (G.2.1 k) :: rest) (hW : (rest.map fun v => v.category).sum ≤ 8) (hdg : decode cc pc = .ok (.invokevirtual index, 3)) (hf : cells ≤ R.cells ∧ slots ≤ R.slots) :
    va_Run p l e R s m args below meth c H locs cells slots 0 0 (F0 m pc ls st0) rest (Qc (Value.ref (G.2.1 k) :: As).toArray) A :=
  va_runV (Ts := TB) (C := C) ⟨hC.x, hC.b, hC.ml, hC.ow, hC.ts⟩ hM ⟨cb, hC.ts _ hi, hC.ts _ hse⟩ ⟨bu_blind, va_recv (ws := [(G.2.1 k, .inr (ci, fs))]) hK.1 (fun i q hq => by
    match i, hq with
    | 0, hq => cases hq; exact hR k _ he
    | i + 1, hq => simp at hq) (ci := ci) (q0 := 0) hc rfl, fun U hU hW => ⟨rfl, by rw [hU]; exact hR, hK.moved hW⟩⟩ rfl hn hls hst (lv_room hW) hdg hf
theorem runS (hC : Cx p s m args meth c cc nL own ret) (hK : KU G s) (hR : RepH G σ τ H) (hls : ls.size = nL) (hM : Met l y (wsOf y b maxL r) (rmD d) (va_Pc As (BU G (σ, τ))) Qc 0 0 A)
    (cb : CallB R s args own index y b maxL r (wsOf y b maxL r) (rmD d) 0 0 n) (hi : Cond.static y ∈ TB)
    (hn : As.length = n) (hst : st0 = As.reverse ++ rest) (hW : (rest.map fun v => v.category).sum ≤ 8) (hdg : decode cc pc = .ok (.invokestatic index, 3)) (hf : cells ≤ R.cells ∧ slots ≤ R.slots) :
    va_Run p l e R s m args below meth c H locs cells slots 0 0 (F0 m pc ls st0) rest (Qc As.toArray) A :=
  va_runS (Ts := TB) ⟨hC.x, hC.b, hC.ml, hC.ow, hC.ts⟩ hM ⟨cb, hC.ts _ hi⟩ ⟨bu_blind, fun U hU hW => ⟨rfl, by rw [hU]; exact hR, hK.moved hW⟩⟩ rfl hn hls hst (lv_room hW) hdg hf
theorem runSN (hC : Cx p s m args meth c cc nL own ret) (hK : KU G s) (hR : RepH G σ τ H) (hls : ls.size = nL) (hM : Met l y (wsOf y b maxL r) (rmD d) (va_Pc As (BU G (σ, τ))) Qc 0 0 A) {host : String}
    (cb : va_CN R s args own index y host b maxL r (wsOf y b maxL r) (rmD d) 0 0 n) (hi : Cond.static y ∈ TB)
    (hn : As.length = n) (hst : st0 = As.reverse ++ rest) (hW : (rest.map fun v => v.category).sum ≤ 8) (hdg : decode cc pc = .ok (.invokestatic index, 3)) (hf : cells ≤ R.cells ∧ slots ≤ R.slots) :
    va_Run p l e R s m args below meth c H locs cells slots 0 0 (F0 m pc ls st0) rest (Qc As.toArray) A :=
  va_runSN (Ts := TB) ⟨hC.x, hC.b, hC.ml, hC.ow, hC.ts⟩ hM ⟨cb, hC.ts _ hi, trivial⟩ ⟨bu_blind, fun U hU hW => ⟨rfl, by rw [hU]; exact hR, hK.moved hW⟩⟩ rfl hn hls hst (lv_room hW) hdg hf
theorem goi {post : Int32 → SI × SL → Prop} {a : Array Value} (hr : va_Run p l e R s m args below meth c H locs cells slots 0 0 (F0 m pc ls st0) rest (va_Qi post (BU G) A a) A) (hS : va_S A H0 H locs)
    (kk : ∀ (v : Int32) (σ1 : SI) (τ1 : SL) (H1 : Heap) (locs1 : List Loc), post v (σ1, τ1) → RepH G σ1 τ1 H1 → va_S A H0 H1 locs1 → W p l e R s m args below meth c H1 locs1 cells slots Q (F0 m (pc + 3) ls (.int v :: rest))) : W p l e R s m args below meth c H locs cells slots Q (F0 m pc ls st0) :=
  va_calli hr hS (fun _ _ h => h) (fun _ h => h) (fun v u t H1 locs1 ht _ hw hB _ _ hS1 => kk v u.1 u.2 H1 locs1 hw (ht ▸ hB.1) hS1)
theorem gol {post : Int64 → SI × SL → Prop} {a : Array Value} (hr : va_Run p l e R s m args below meth c H locs cells slots 0 0 (F0 m pc ls st0) rest (va_Ql post (BU G) A a) A) (hS : va_S A H0 H locs)
    (kk : ∀ (v : Int64) (σ1 : SI) (τ1 : SL) (H1 : Heap) (locs1 : List Loc), post v (σ1, τ1) → RepH G σ1 τ1 H1 → va_S A H0 H1 locs1 → W p l e R s m args below meth c H1 locs1 cells slots Q (F0 m (pc + 3) ls (.long v :: rest))) : W p l e R s m args below meth c H locs cells slots Q (F0 m pc ls st0) :=
  va_calll hr hS (fun _ _ h => h) (fun _ h => h) (fun v u t H1 locs1 ht _ hw hB _ _ hS1 => kk v u.1 u.2 H1 locs1 hw (ht ▸ hB.1) hS1)
theorem gov {post : SI × SL → Prop} {a : Array Value} (hr : va_Run p l e R s m args below meth c H locs cells slots 0 0 (F0 m pc ls st0) rest (va_Qv post (BU G) A a) A) (hS : va_S A H0 H locs)
    (kk : ∀ (σ1 : SI) (τ1 : SL) (H1 : Heap) (locs1 : List Loc), post (σ1, τ1) → RepH G σ1 τ1 H1 → va_S A H0 H1 locs1 → W p l e R s m args below meth c H1 locs1 cells slots Q (F0 m (pc + 3) ls rest)) : W p l e R s m args below meth c H locs cells slots Q (F0 m pc ls st0) :=
  va_callv hr hS (fun _ _ h => h) (fun _ h => h) (fun u t H1 locs1 ht _ hw hB _ _ hS1 => kk u.1 u.2 H1 locs1 hw (ht ▸ hB.1) hS1)
theorem goq {post : Option Nat → SI × SL → Prop} {a : Array Value} (hr : va_Run p l e R s m args below meth c H locs cells slots 0 0 (F0 m pc ls st0) rest (va_Qq post (BU G) A a) A) (hS : va_S A H0 H locs)
    (kk : ∀ (v : Option Nat) (σ1 : SI) (τ1 : SL) (H1 : Heap) (locs1 : List Loc), post v (σ1, τ1) → RepH G σ1 τ1 H1 → va_S A H0 H1 locs1 → W p l e R s m args below meth c H1 locs1 cells slots Q (F0 m (pc + 3) ls (va_rf v :: rest))) : W p l e R s m args below meth c H locs cells slots Q (F0 m pc ls st0) :=
  va_callq hr hS (fun _ _ h => h) (fun _ h => h) (fun v u t H1 locs1 ht _ hw hB _ _ hS1 => kk v u.1 u.2 H1 locs1 hw (ht ▸ hB.1) hS1)
end LAYER3
