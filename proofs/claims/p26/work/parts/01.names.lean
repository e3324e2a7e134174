-- ===== PART A: goes FIRST, ahead of the names: the tables' words, and 'selects' of the private methods out of them =====
/-- a private method of a class that the tables say can be made, by its rows of tables_1 -/
def lw_okq (q : MethodName × Nat) : Prop := (q.1.cls ≠ "java/lang/invoke/MethodHandle" ∧ q.1.cls ≠ "java/lang/invoke/VarHandle") ∧ Cond.instantiable q.1.cls q.2 ∈ tables_1 ∧ Cond.privateMethod q.1 ∈ tables_1 ∧ Cond.instanceMethod q.1 ∈ tables_1
theorem lw_p0 : lw_okq (⟨"TimeBench", "refusalAt", "(I)I"⟩, 13) := ⟨⟨by decide +kernel, by decide +kernel⟩, List.mem_of_getElem? (i := 15) (by decide +kernel), List.mem_of_getElem? (i := 399) (by decide +kernel), List.mem_of_getElem? (i := 400) (by decide +kernel)⟩
theorem lw_p1 : lw_okq (⟨"TimeBench", "hasCome", "(I)Z"⟩, 13) := ⟨⟨by decide +kernel, by decide +kernel⟩, List.mem_of_getElem? (i := 15) (by decide +kernel), List.mem_of_getElem? (i := 431) (by decide +kernel), List.mem_of_getElem? (i := 432) (by decide +kernel)⟩
theorem lw_p2 : lw_okq (⟨"TimeBench", "refusalOfClocks", "(II)I"⟩, 13) := ⟨⟨by decide +kernel, by decide +kernel⟩, List.mem_of_getElem? (i := 15) (by decide +kernel), List.mem_of_getElem? (i := 444) (by decide +kernel), List.mem_of_getElem? (i := 445) (by decide +kernel)⟩
theorem lw_p3 : lw_okq (⟨"TimeBench", "findWay", "(III)I"⟩, 13) := ⟨⟨by decide +kernel, by decide +kernel⟩, List.mem_of_getElem? (i := 15) (by decide +kernel), List.mem_of_getElem? (i := 449) (by decide +kernel), List.mem_of_getElem? (i := 450) (by decide +kernel)⟩
theorem lw_p4 : lw_okq (⟨"TimeBench$Ways", "reach", "(IIIII)V"⟩, 7) := ⟨⟨by decide +kernel, by decide +kernel⟩, List.mem_of_getElem? (i := 175) (by decide +kernel), List.mem_of_getElem? (i := 461) (by decide +kernel), List.mem_of_getElem? (i := 462) (by decide +kernel)⟩
theorem lw_p5 : lw_okq (⟨"TimeBench$Ways", "spreadOn", "(II)V"⟩, 7) := ⟨⟨by decide +kernel, by decide +kernel⟩, List.mem_of_getElem? (i := 175) (by decide +kernel), List.mem_of_getElem? (i := 465) (by decide +kernel), List.mem_of_getElem? (i := 466) (by decide +kernel)⟩
theorem lw_p6 : lw_okq (⟨"TimeBench$Closing", "leastTaken", "()LTimeBench$Clock;"⟩, 7) := ⟨⟨by decide +kernel, by decide +kernel⟩, List.mem_of_getElem? (i := 253) (by decide +kernel), List.mem_of_getElem? (i := 535) (by decide +kernel), List.mem_of_getElem? (i := 536) (by decide +kernel)⟩
theorem lw_p7 : lw_okq (⟨"TimeBench$Closing", "hold", "(LTimeBench$Clock;I)V"⟩, 7) := ⟨⟨by decide +kernel, by decide +kernel⟩, List.mem_of_getElem? (i := 253) (by decide +kernel), List.mem_of_getElem? (i := 544) (by decide +kernel), List.mem_of_getElem? (i := 545) (by decide +kernel)⟩
theorem lw_p8 : lw_okq (⟨"TimeBench$Line", "rawBelow", "()J"⟩, 5) := ⟨⟨by decide +kernel, by decide +kernel⟩, List.mem_of_getElem? (i := 209) (by decide +kernel), List.mem_of_getElem? (i := 583) (by decide +kernel), List.mem_of_getElem? (i := 584) (by decide +kernel)⟩
theorem lw_p9 : lw_okq (⟨"TimeBench$Foretelling", "gatherMissed", "(LTimeBench$Clock;I)V"⟩, 7) := ⟨⟨by decide +kernel, by decide +kernel⟩, List.mem_of_getElem? (i := 203) (by decide +kernel), List.mem_of_getElem? (i := 609) (by decide +kernel), List.mem_of_getElem? (i := 610) (by decide +kernel)⟩
theorem lw_p10 : lw_okq (⟨"TimeBench$Closing", "weigh", "(II)V"⟩, 7) := ⟨⟨by decide +kernel, by decide +kernel⟩, List.mem_of_getElem? (i := 253) (by decide +kernel), List.mem_of_getElem? (i := 619) (by decide +kernel), List.mem_of_getElem? (i := 620) (by decide +kernel)⟩
theorem lw_p11 : lw_okq (⟨"TimeBench$Closing", "makePaper", "(I)J"⟩, 7) := ⟨⟨by decide +kernel, by decide +kernel⟩, List.mem_of_getElem? (i := 253) (by decide +kernel), List.mem_of_getElem? (i := 626) (by decide +kernel), List.mem_of_getElem? (i := 627) (by decide +kernel)⟩
theorem lw_p12 : lw_okq (⟨"TimeBench$Closing", "tellXs", "(IJ)V"⟩, 7) := ⟨⟨by decide +kernel, by decide +kernel⟩, List.mem_of_getElem? (i := 253) (by decide +kernel), List.mem_of_getElem? (i := 640) (by decide +kernel), List.mem_of_getElem? (i := 641) (by decide +kernel)⟩
theorem lw_p13 : lw_okq (⟨"TimeBench$Closing", "judgeAll", "(II)V"⟩, 7) := ⟨⟨by decide +kernel, by decide +kernel⟩, List.mem_of_getElem? (i := 253) (by decide +kernel), List.mem_of_getElem? (i := 645) (by decide +kernel), List.mem_of_getElem? (i := 646) (by decide +kernel)⟩
theorem lw_p14 : lw_okq (⟨"TimeBench$Closing", "judge", "(LTimeBench$Clock;III)V"⟩, 7) := ⟨⟨by decide +kernel, by decide +kernel⟩, List.mem_of_getElem? (i := 253) (by decide +kernel), List.mem_of_getElem? (i := 649) (by decide +kernel), List.mem_of_getElem? (i := 650) (by decide +kernel)⟩
theorem lw_p15 : lw_okq (⟨"TimeBench$Closing", "judgeSuspect", "(LTimeBench$Clock;II)V"⟩, 7) := ⟨⟨by decide +kernel, by decide +kernel⟩, List.mem_of_getElem? (i := 253) (by decide +kernel), List.mem_of_getElem? (i := 664) (by decide +kernel), List.mem_of_getElem? (i := 665) (by decide +kernel)⟩
def lw_privs_1 : List (MethodName × Nat) := [(⟨"TimeBench", "refusalAt", "(I)I"⟩, 13), (⟨"TimeBench", "hasCome", "(I)Z"⟩, 13), (⟨"TimeBench", "refusalOfClocks", "(II)I"⟩, 13), (⟨"TimeBench", "findWay", "(III)I"⟩, 13), (⟨"TimeBench$Ways", "reach", "(IIIII)V"⟩, 7), (⟨"TimeBench$Ways", "spreadOn", "(II)V"⟩, 7), (⟨"TimeBench$Closing", "leastTaken", "()LTimeBench$Clock;"⟩, 7), (⟨"TimeBench$Closing", "hold", "(LTimeBench$Clock;I)V"⟩, 7), (⟨"TimeBench$Line", "rawBelow", "()J"⟩, 5), (⟨"TimeBench$Foretelling", "gatherMissed", "(LTimeBench$Clock;I)V"⟩, 7), (⟨"TimeBench$Closing", "weigh", "(II)V"⟩, 7), (⟨"TimeBench$Closing", "makePaper", "(I)J"⟩, 7), (⟨"TimeBench$Closing", "tellXs", "(IJ)V"⟩, 7), (⟨"TimeBench$Closing", "judgeAll", "(II)V"⟩, 7), (⟨"TimeBench$Closing", "judge", "(LTimeBench$Clock;III)V"⟩, 7), (⟨"TimeBench$Closing", "judgeSuspect", "(LTimeBench$Clock;II)V"⟩, 7)]
theorem lw_r1 : ∀ q ∈ lw_privs_1, lw_okq q := List.forall_mem_cons.mpr ⟨lw_p0, List.forall_mem_cons.mpr ⟨lw_p1, List.forall_mem_cons.mpr ⟨lw_p2, List.forall_mem_cons.mpr ⟨lw_p3, List.forall_mem_cons.mpr ⟨lw_p4, List.forall_mem_cons.mpr ⟨lw_p5, List.forall_mem_cons.mpr ⟨lw_p6, List.forall_mem_cons.mpr ⟨lw_p7, List.forall_mem_cons.mpr ⟨lw_p8, List.forall_mem_cons.mpr ⟨lw_p9, List.forall_mem_cons.mpr ⟨lw_p10, List.forall_mem_cons.mpr ⟨lw_p11, List.forall_mem_cons.mpr ⟨lw_p12, List.forall_mem_cons.mpr ⟨lw_p13, List.forall_mem_cons.mpr ⟨lw_p14, List.forall_mem_cons.mpr ⟨lw_p15, fun _ h => absurd h List.not_mem_nil⟩⟩⟩⟩⟩⟩⟩⟩⟩⟩⟩⟩⟩⟩⟩⟩
theorem lw_p16 : lw_okq (⟨"TimeBench", "moveScale", "()V"⟩, 13) := ⟨⟨by decide +kernel, by decide +kernel⟩, List.mem_of_getElem? (i := 15) (by decide +kernel), List.mem_of_getElem? (i := 679) (by decide +kernel), List.mem_of_getElem? (i := 680) (by decide +kernel)⟩
theorem lw_p17 : lw_okq (⟨"TimeBench$Line", "divisorOfBoth", "()J"⟩, 5) := ⟨⟨by decide +kernel, by decide +kernel⟩, List.mem_of_getElem? (i := 209) (by decide +kernel), List.mem_of_getElem? (i := 713) (by decide +kernel), List.mem_of_getElem? (i := 714) (by decide +kernel)⟩
theorem lw_p18 : lw_okq (⟨"TimeBench$Line", "rawAbove", "()J"⟩, 5) := ⟨⟨by decide +kernel, by decide +kernel⟩, List.mem_of_getElem? (i := 209) (by decide +kernel), List.mem_of_getElem? (i := 717) (by decide +kernel), List.mem_of_getElem? (i := 718) (by decide +kernel)⟩
theorem lw_p19 : lw_okq (⟨"TimeBenchModel", "isClock", "(I)Z"⟩, 49) := ⟨⟨by decide +kernel, by decide +kernel⟩, List.mem_of_getElem? (i := 774) (by decide +kernel), List.mem_of_getElem? (i := 936) (by decide +kernel), List.mem_of_getElem? (i := 937) (by decide +kernel)⟩
theorem lw_p20 : lw_okq (⟨"TimeBenchModel", "at", "(II)I"⟩, 49) := ⟨⟨by decide +kernel, by decide +kernel⟩, List.mem_of_getElem? (i := 774) (by decide +kernel), List.mem_of_getElem? (i := 940) (by decide +kernel), List.mem_of_getElem? (i := 941) (by decide +kernel)⟩
theorem lw_p21 : lw_okq (⟨"TimeBenchModel", "fails", "(III)I"⟩, 49) := ⟨⟨by decide +kernel, by decide +kernel⟩, List.mem_of_getElem? (i := 774) (by decide +kernel), List.mem_of_getElem? (i := 948) (by decide +kernel), List.mem_of_getElem? (i := 949) (by decide +kernel)⟩
theorem lw_p22 : lw_okq (⟨"TimeBenchModel", "isLink", "(I)Z"⟩, 49) := ⟨⟨by decide +kernel, by decide +kernel⟩, List.mem_of_getElem? (i := 774) (by decide +kernel), List.mem_of_getElem? (i := 952) (by decide +kernel), List.mem_of_getElem? (i := 953) (by decide +kernel)⟩
theorem lw_p23 : lw_okq (⟨"TimeBenchModel", "told", "(II)I"⟩, 49) := ⟨⟨by decide +kernel, by decide +kernel⟩, List.mem_of_getElem? (i := 774) (by decide +kernel), List.mem_of_getElem? (i := 980) (by decide +kernel), List.mem_of_getElem? (i := 981) (by decide +kernel)⟩
theorem lw_p24 : lw_okq (⟨"TimeBenchModel", "goes", "(III)Z"⟩, 49) := ⟨⟨by decide +kernel, by decide +kernel⟩, List.mem_of_getElem? (i := 774) (by decide +kernel), List.mem_of_getElem? (i := 989) (by decide +kernel), List.mem_of_getElem? (i := 990) (by decide +kernel)⟩
theorem lw_p25 : lw_okq (⟨"TimeBenchModel", "other", "(II)I"⟩, 49) := ⟨⟨by decide +kernel, by decide +kernel⟩, List.mem_of_getElem? (i := 774) (by decide +kernel), List.mem_of_getElem? (i := 993) (by decide +kernel), List.mem_of_getElem? (i := 994) (by decide +kernel)⟩
theorem lw_p26 : lw_okq (⟨"TimeBenchModel", "isX", "(II)Z"⟩, 49) := ⟨⟨by decide +kernel, by decide +kernel⟩, List.mem_of_getElem? (i := 774) (by decide +kernel), List.mem_of_getElem? (i := 1031) (by decide +kernel), List.mem_of_getElem? (i := 1032) (by decide +kernel)⟩
theorem lw_p27 : lw_okq (⟨"TimeBenchModel", "isTaken", "(I)Z"⟩, 49) := ⟨⟨by decide +kernel, by decide +kernel⟩, List.mem_of_getElem? (i := 774) (by decide +kernel), List.mem_of_getElem? (i := 1035) (by decide +kernel), List.mem_of_getElem? (i := 1036) (by decide +kernel)⟩
theorem lw_p28 : lw_okq (⟨"TimeBenchModel", "foretold", "(I)I"⟩, 49) := ⟨⟨by decide +kernel, by decide +kernel⟩, List.mem_of_getElem? (i := 774) (by decide +kernel), List.mem_of_getElem? (i := 1043) (by decide +kernel), List.mem_of_getElem? (i := 1044) (by decide +kernel)⟩
theorem lw_p29 : lw_okq (⟨"TimeBenchModel", "byGains", "(I)Z"⟩, 49) := ⟨⟨by decide +kernel, by decide +kernel⟩, List.mem_of_getElem? (i := 774) (by decide +kernel), List.mem_of_getElem? (i := 1047) (by decide +kernel), List.mem_of_getElem? (i := 1048) (by decide +kernel)⟩
theorem lw_p30 : lw_okq (⟨"TimeBenchModel", "isGain", "(II)Z"⟩, 49) := ⟨⟨by decide +kernel, by decide +kernel⟩, List.mem_of_getElem? (i := 774) (by decide +kernel), List.mem_of_getElem? (i := 1051) (by decide +kernel), List.mem_of_getElem? (i := 1052) (by decide +kernel)⟩
theorem lw_p31 : lw_okq (⟨"TimeBenchModel", "line", "(IZ)V"⟩, 49) := ⟨⟨by decide +kernel, by decide +kernel⟩, List.mem_of_getElem? (i := 774) (by decide +kernel), List.mem_of_getElem? (i := 1055) (by decide +kernel), List.mem_of_getElem? (i := 1056) (by decide +kernel)⟩
def lw_privs_2 : List (MethodName × Nat) := [(⟨"TimeBench", "moveScale", "()V"⟩, 13), (⟨"TimeBench$Line", "divisorOfBoth", "()J"⟩, 5), (⟨"TimeBench$Line", "rawAbove", "()J"⟩, 5), (⟨"TimeBenchModel", "isClock", "(I)Z"⟩, 49), (⟨"TimeBenchModel", "at", "(II)I"⟩, 49), (⟨"TimeBenchModel", "fails", "(III)I"⟩, 49), (⟨"TimeBenchModel", "isLink", "(I)Z"⟩, 49), (⟨"TimeBenchModel", "told", "(II)I"⟩, 49), (⟨"TimeBenchModel", "goes", "(III)Z"⟩, 49), (⟨"TimeBenchModel", "other", "(II)I"⟩, 49), (⟨"TimeBenchModel", "isX", "(II)Z"⟩, 49), (⟨"TimeBenchModel", "isTaken", "(I)Z"⟩, 49), (⟨"TimeBenchModel", "foretold", "(I)I"⟩, 49), (⟨"TimeBenchModel", "byGains", "(I)Z"⟩, 49), (⟨"TimeBenchModel", "isGain", "(II)Z"⟩, 49), (⟨"TimeBenchModel", "line", "(IZ)V"⟩, 49)]
theorem lw_r2 : ∀ q ∈ lw_privs_2, lw_okq q := List.forall_mem_cons.mpr ⟨lw_p16, List.forall_mem_cons.mpr ⟨lw_p17, List.forall_mem_cons.mpr ⟨lw_p18, List.forall_mem_cons.mpr ⟨lw_p19, List.forall_mem_cons.mpr ⟨lw_p20, List.forall_mem_cons.mpr ⟨lw_p21, List.forall_mem_cons.mpr ⟨lw_p22, List.forall_mem_cons.mpr ⟨lw_p23, List.forall_mem_cons.mpr ⟨lw_p24, List.forall_mem_cons.mpr ⟨lw_p25, List.forall_mem_cons.mpr ⟨lw_p26, List.forall_mem_cons.mpr ⟨lw_p27, List.forall_mem_cons.mpr ⟨lw_p28, List.forall_mem_cons.mpr ⟨lw_p29, List.forall_mem_cons.mpr ⟨lw_p30, List.forall_mem_cons.mpr ⟨lw_p31, fun _ h => absurd h List.not_mem_nil⟩⟩⟩⟩⟩⟩⟩⟩⟩⟩⟩⟩⟩⟩⟩⟩
theorem lw_p32 : lw_okq (⟨"TimeBenchModel", "full", "(I)I"⟩, 49) := ⟨⟨by decide +kernel, by decide +kernel⟩, List.mem_of_getElem? (i := 774) (by decide +kernel), List.mem_of_getElem? (i := 1078) (by decide +kernel), List.mem_of_getElem? (i := 1079) (by decide +kernel)⟩
theorem lw_p33 : lw_okq (⟨"TimeBenchModel", "isMissed", "(II)Z"⟩, 49) := ⟨⟨by decide +kernel, by decide +kernel⟩, List.mem_of_getElem? (i := 774) (by decide +kernel), List.mem_of_getElem? (i := 1082) (by decide +kernel), List.mem_of_getElem? (i := 1083) (by decide +kernel)⟩
theorem lw_p34 : lw_okq (⟨"TimeBenchModel", "root", "()I"⟩, 49) := ⟨⟨by decide +kernel, by decide +kernel⟩, List.mem_of_getElem? (i := 774) (by decide +kernel), List.mem_of_getElem? (i := 1091) (by decide +kernel), List.mem_of_getElem? (i := 1092) (by decide +kernel)⟩
theorem lw_p35 : lw_okq (⟨"TimeBenchModel", "closes", "(I)I"⟩, 49) := ⟨⟨by decide +kernel, by decide +kernel⟩, List.mem_of_getElem? (i := 774) (by decide +kernel), List.mem_of_getElem? (i := 1095) (by decide +kernel), List.mem_of_getElem? (i := 1096) (by decide +kernel)⟩
theorem lw_p36 : lw_okq (⟨"TimeBenchModel", "looks", "(II)V"⟩, 49) := ⟨⟨by decide +kernel, by decide +kernel⟩, List.mem_of_getElem? (i := 774) (by decide +kernel), List.mem_of_getElem? (i := 1102) (by decide +kernel), List.mem_of_getElem? (i := 1103) (by decide +kernel)⟩
theorem lw_p37 : lw_okq (⟨"TimeBenchModel", "steps", "(II)V"⟩, 49) := ⟨⟨by decide +kernel, by decide +kernel⟩, List.mem_of_getElem? (i := 774) (by decide +kernel), List.mem_of_getElem? (i := 1109) (by decide +kernel), List.mem_of_getElem? (i := 1110) (by decide +kernel)⟩
theorem lw_p38 : lw_okq (⟨"TimeBenchModel", "direct", "(III)I"⟩, 49) := ⟨⟨by decide +kernel, by decide +kernel⟩, List.mem_of_getElem? (i := 774) (by decide +kernel), List.mem_of_getElem? (i := 1142) (by decide +kernel), List.mem_of_getElem? (i := 1143) (by decide +kernel)⟩
def lw_privs_3 : List (MethodName × Nat) := [(⟨"TimeBenchModel", "full", "(I)I"⟩, 49), (⟨"TimeBenchModel", "isMissed", "(II)Z"⟩, 49), (⟨"TimeBenchModel", "root", "()I"⟩, 49), (⟨"TimeBenchModel", "closes", "(I)I"⟩, 49), (⟨"TimeBenchModel", "looks", "(II)V"⟩, 49), (⟨"TimeBenchModel", "steps", "(II)V"⟩, 49), (⟨"TimeBenchModel", "direct", "(III)I"⟩, 49)]
theorem lw_r3 : ∀ q ∈ lw_privs_3, lw_okq q := List.forall_mem_cons.mpr ⟨lw_p32, List.forall_mem_cons.mpr ⟨lw_p33, List.forall_mem_cons.mpr ⟨lw_p34, List.forall_mem_cons.mpr ⟨lw_p35, List.forall_mem_cons.mpr ⟨lw_p36, List.forall_mem_cons.mpr ⟨lw_p37, List.forall_mem_cons.mpr ⟨lw_p38, fun _ h => absurd h List.not_mem_nil⟩⟩⟩⟩⟩⟩⟩
def lw_privs : List (MethodName × Nat) := lw_privs_1 ++ (lw_privs_2 ++ (lw_privs_3))
def lw_tbl : List Cond := k2_sels lw_privs ++ tables_1
theorem lw_privs_ok : ∀ q ∈ lw_privs, lw_okq q := by
  show ∀ q ∈ lw_privs_1 ++ (lw_privs_2 ++ (lw_privs_3)), lw_okq q
  exact List.forall_mem_append.mpr ⟨lw_r1, List.forall_mem_append.mpr ⟨lw_r2, lw_r3⟩⟩
def RX0 : String := "TimeBench$Clock"
def TX0 : u_T := fun k => match k with
  | 0 => ("TimeBench$Clock", "place", "I", true)
  | 1 => ("TimeBench$Clock", "kind", "I", false)
  | 2 => ("TimeBench$Clock", "span", "I", false)
  | 3 => ("TimeBench$Clock", "reach", "I", false)
  | 4 => ("TimeBench$Clock", "setting", "I", false)
  | 5 => ("TimeBench$Clock", "taken", "Z", false)
  | 6 => ("TimeBench$Clock", "called", "Z", false)
  | 7 => ("TimeBench$Clock", "out", "Z", false)
  | 8 => ("TimeBench$Clock", "since", "I", false)
  | 9 => ("TimeBench$Clock", "suspectAt", "I", false)
  | 10 => ("TimeBench$Clock", "steps", "I", false)
  | _ => ("TimeBench$Clock", "drifts", "I", false)
def tyX0 : Nat → FieldType := fun k => match k with
  | 0 => .int
  | 1 => .int
  | 2 => .int
  | 3 => .int
  | 4 => .int
  | 5 => .boolean
  | 6 => .boolean
  | 7 => .boolean
  | 8 => .int
  | 9 => .int
  | 10 => .int
  | _ => .int
abbrev wsX00 : List Cond := u_ws RX0 TX0 12
theorem nmX0 : ∀ a, a < 12 → ∀ b, b < 12 → a ≠ b → (TX0 a).2.1 ≠ (TX0 b).2.1 := by decide +kernel
theorem tyX0_ok : ∀ k, k < 12 → parseFieldDescriptor (TX0 k).2.2.1 = some (tyX0 k) := by decide +kernel
abbrev cX0_init : ByteArray := prog_2_method_1_code
def yX0_init : MethodName := ⟨RX0, "<init>", "(I)V"⟩
abbrev cX0_lay : ByteArray := prog_2_method_2_code
def yX0_lay : MethodName := ⟨RX0, "lay", "(IIII)V"⟩
abbrev cX0_beginAnew : ByteArray := prog_2_method_3_code
def yX0_beginAnew : MethodName := ⟨RX0, "beginAnew", "(I)V"⟩
abbrev cX0_isTaken : ByteArray := prog_2_method_4_code
def yX0_isTaken : MethodName := ⟨RX0, "isTaken", "()Z"⟩
abbrev cX0_isSteered : ByteArray := prog_2_method_5_code
def yX0_isSteered : MethodName := ⟨RX0, "isSteered", "()Z"⟩
def RX1 : String := "TimeBench$Closing"
def TX1 : u_T := fun k => match k with
  | 0 => ("TimeBench$Closing", "shelf", "LTimeBench$Shelf;", true)
  | 1 => ("TimeBench$Closing", "ways", "LTimeBench$Ways;", true)
  | 2 => ("TimeBench$Closing", "told", "LTimeBench$Told;", true)
  | 3 => ("TimeBench$Closing", "foretelling", "LTimeBench$Foretelling;", true)
  | 4 => ("TimeBench$Closing", "steps", "LTimeBench$Steps;", true)
  | 5 => ("TimeBench$Closing", "fullWeights", "[I", true)
  | _ => ("TimeBench$Closing", "present", "I", false)
def tyX1 : Nat → FieldType := fun k => match k with
  | 0 => .object "TimeBench$Shelf"
  | 1 => .object "TimeBench$Ways"
  | 2 => .object "TimeBench$Told"
  | 3 => .object "TimeBench$Foretelling"
  | 4 => .object "TimeBench$Steps"
  | 5 => .array .int
  | _ => .int
abbrev wsX10 : List Cond := u_ws RX1 TX1 7
theorem nmX1 : ∀ a, a < 7 → ∀ b, b < 7 → a ≠ b → (TX1 a).2.1 ≠ (TX1 b).2.1 := by decide +kernel
theorem tyX1_ok : ∀ k, k < 7 → parseFieldDescriptor (TX1 k).2.2.1 = some (tyX1 k) := by decide +kernel
abbrev cX1_init : ByteArray := prog_3_method_1_code
def yX1_init : MethodName := ⟨RX1, "<init>", "(LTimeBench$Shelf;LTimeBench$Ways;LTimeBench$Told;LTimeBench$Foretelling;LTimeBench$Steps;)V"⟩
abbrev cX1_closeHour : ByteArray := prog_3_method_2_code
def yX1_closeHour : MethodName := ⟨RX1, "closeHour", "(III)I"⟩
abbrev cX1_leastTaken : ByteArray := prog_3_method_3_code
def yX1_leastTaken : MethodName := ⟨RX1, "leastTaken", "()LTimeBench$Clock;"⟩
abbrev cX1_hold : ByteArray := prog_3_method_4_code
def yX1_hold : MethodName := ⟨RX1, "hold", "(LTimeBench$Clock;I)V"⟩
abbrev cX1_weigh : ByteArray := prog_3_method_5_code
def yX1_weigh : MethodName := ⟨RX1, "weigh", "(II)V"⟩
abbrev cX1_makePaper : ByteArray := prog_3_method_6_code
def yX1_makePaper : MethodName := ⟨RX1, "makePaper", "(I)J"⟩
abbrev cX1_tellXs : ByteArray := prog_3_method_7_code
def yX1_tellXs : MethodName := ⟨RX1, "tellXs", "(IJ)V"⟩
abbrev cX1_judgeAll : ByteArray := prog_3_method_8_code
def yX1_judgeAll : MethodName := ⟨RX1, "judgeAll", "(II)V"⟩
abbrev cX1_judge : ByteArray := prog_3_method_9_code
def yX1_judge : MethodName := ⟨RX1, "judge", "(LTimeBench$Clock;III)V"⟩
abbrev cX1_judgeSuspect : ByteArray := prog_3_method_10_code
def yX1_judgeSuspect : MethodName := ⟨RX1, "judgeSuspect", "(LTimeBench$Clock;II)V"⟩
def RX2 : String := "TimeBench$Foretelling"
def TX2 : u_T := fun k => match k with
  | 0 => ("TimeBench$Foretelling", "told", "LTimeBench$Told;", true)
  | 1 => ("TimeBench$Foretelling", "xs", "LTimeBench$Line;", true)
  | 2 => ("TimeBench$Foretelling", "gains", "LTimeBench$Line;", true)
  | 3 => ("TimeBench$Foretelling", "base", "J", false)
  | 4 => ("TimeBench$Foretelling", "missedCount", "I", false)
  | 5 => ("TimeBench$Foretelling", "missedAmounts", "J", false)
  | _ => ("TimeBench$Foretelling", "missedSquares", "J", false)
def tyX2 : Nat → FieldType := fun k => match k with
  | 0 => .object "TimeBench$Told"
  | 1 => .object "TimeBench$Line"
  | 2 => .object "TimeBench$Line"
  | 3 => .long
  | 4 => .int
  | 5 => .long
  | _ => .long
abbrev wsX20 : List Cond := u_ws RX2 TX2 7
theorem nmX2 : ∀ a, a < 7 → ∀ b, b < 7 → a ≠ b → (TX2 a).2.1 ≠ (TX2 b).2.1 := by decide +kernel
theorem tyX2_ok : ∀ k, k < 7 → parseFieldDescriptor (TX2 k).2.2.1 = some (tyX2 k) := by decide +kernel
abbrev cX2_init : ByteArray := prog_4_method_1_code
def yX2_init : MethodName := ⟨RX2, "<init>", "(LTimeBench$Told;)V"⟩
abbrev cX2_xOf : ByteArray := prog_4_method_2_code
def yX2_xOf : MethodName := ⟨RX2, "xOf", "(LTimeBench$Clock;I)I"⟩
abbrev cX2_missedOf : ByteArray := prog_4_method_3_code
def yX2_missedOf : MethodName := ⟨RX2, "missedOf", "(LTimeBench$Clock;I)I"⟩
abbrev cX2_countXs : ByteArray := prog_4_method_4_code
def yX2_countXs : MethodName := ⟨RX2, "countXs", "(LTimeBench$Clock;I)I"⟩
abbrev cX2_lineOf : ByteArray := prog_4_method_5_code
def yX2_lineOf : MethodName := ⟨RX2, "lineOf", "(LTimeBench$Clock;I)LTimeBench$Line;"⟩
abbrev cX2_foretoldOf : ByteArray := prog_4_method_6_code
def yX2_foretoldOf : MethodName := ⟨RX2, "foretoldOf", "(LTimeBench$Clock;I)I"⟩
abbrev cX2_fullWeightOf : ByteArray := prog_4_method_7_code
def yX2_fullWeightOf : MethodName := ⟨RX2, "fullWeightOf", "(LTimeBench$Clock;II)I"⟩
abbrev cX2_usuallyMissedBy : ByteArray := prog_4_method_8_code
def yX2_usuallyMissedBy : MethodName := ⟨RX2, "usuallyMissedBy", "(LTimeBench$Clock;I)J"⟩
abbrev cX2_gatherMissed : ByteArray := prog_4_method_9_code
def yX2_gatherMissed : MethodName := ⟨RX2, "gatherMissed", "(LTimeBench$Clock;I)V"⟩
abbrev cX2_drifts : ByteArray := prog_4_method_10_code
def yX2_drifts : MethodName := ⟨RX2, "drifts", "(LTimeBench$Clock;I)Z"⟩
abbrev cX2_haveOneSign : ByteArray := prog_4_method_11_code
def yX2_haveOneSign : MethodName := ⟨RX2, "haveOneSign", "(II)Z"⟩
def RX3 : String := "TimeBench$Line"
def TX3 : u_T := fun k => match k with
  | 0 => ("TimeBench$Line", "count", "I", false)
  | 1 => ("TimeBench$Line", "sumT", "J", false)
  | 2 => ("TimeBench$Line", "sumV", "J", false)
  | 3 => ("TimeBench$Line", "sumTT", "J", false)
  | _ => ("TimeBench$Line", "sumTV", "J", false)
def tyX3 : Nat → FieldType := fun k => match k with
  | 0 => .int
  | 1 => .long
  | 2 => .long
  | 3 => .long
  | _ => .long
abbrev wsX30 : List Cond := u_ws RX3 TX3 5
theorem nmX3 : ∀ a, a < 5 → ∀ b, b < 5 → a ≠ b → (TX3 a).2.1 ≠ (TX3 b).2.1 := by decide +kernel
theorem tyX3_ok : ∀ k, k < 5 → parseFieldDescriptor (TX3 k).2.2.1 = some (tyX3 k) := by decide +kernel
abbrev cX3_init : ByteArray := prog_5_method_1_code
def yX3_init : MethodName := ⟨RX3, "<init>", "()V"⟩
abbrev cX3_clear : ByteArray := prog_5_method_2_code
def yX3_clear : MethodName := ⟨RX3, "clear", "()V"⟩
abbrev cX3_add : ByteArray := prog_5_method_3_code
def yX3_add : MethodName := ⟨RX3, "add", "(JJ)V"⟩
abbrev cX3_count : ByteArray := prog_5_method_4_code
def yX3_count : MethodName := ⟨RX3, "count", "()I"⟩
abbrev cX3_valueAtZero : ByteArray := prog_5_method_5_code
def yX3_valueAtZero : MethodName := ⟨RX3, "valueAtZero", "()J"⟩
abbrev cX3_slopeAbove : ByteArray := prog_5_method_6_code
def yX3_slopeAbove : MethodName := ⟨RX3, "slopeAbove", "()J"⟩
abbrev cX3_slopeBelow : ByteArray := prog_5_method_7_code
def yX3_slopeBelow : MethodName := ⟨RX3, "slopeBelow", "()J"⟩
abbrev cX3_rawAbove : ByteArray := prog_5_method_8_code
def yX3_rawAbove : MethodName := ⟨RX3, "rawAbove", "()J"⟩
abbrev cX3_rawBelow : ByteArray := prog_5_method_9_code
def yX3_rawBelow : MethodName := ⟨RX3, "rawBelow", "()J"⟩
abbrev cX3_divisorOfBoth : ByteArray := prog_5_method_10_code
def yX3_divisorOfBoth : MethodName := ⟨RX3, "divisorOfBoth", "()J"⟩
def RX4 : String := "TimeBench$Link"
def TX4 : u_T := fun k => match k with
  | 0 => ("TimeBench$Link", "kind", "I", false)
  | 1 => ("TimeBench$Link", "first", "I", false)
  | 2 => ("TimeBench$Link", "second", "I", false)
  | 3 => ("TimeBench$Link", "way", "I", false)
  | 4 => ("TimeBench$Link", "there", "[I", true)
  | _ => ("TimeBench$Link", "back", "[I", true)
def tyX4 : Nat → FieldType := fun k => match k with
  | 0 => .int
  | 1 => .int
  | 2 => .int
  | 3 => .int
  | 4 => .array .int
  | _ => .array .int
abbrev wsX40 : List Cond := u_ws RX4 TX4 6
theorem nmX4 : ∀ a, a < 6 → ∀ b, b < 6 → a ≠ b → (TX4 a).2.1 ≠ (TX4 b).2.1 := by decide +kernel
theorem tyX4_ok : ∀ k, k < 6 → parseFieldDescriptor (TX4 k).2.2.1 = some (tyX4 k) := by decide +kernel
abbrev cX4_init : ByteArray := prog_6_method_1_code
def yX4_init : MethodName := ⟨RX4, "<init>", "()V"⟩
abbrev cX4_lay : ByteArray := prog_6_method_2_code
def yX4_lay : MethodName := ⟨RX4, "lay", "(III)V"⟩
abbrev cX4_dropReadings : ByteArray := prog_6_method_3_code
def yX4_dropReadings : MethodName := ⟨RX4, "dropReadings", "()I"⟩
abbrev cX4_readThere : ByteArray := prog_6_method_4_code
def yX4_readThere : MethodName := ⟨RX4, "readThere", "(II)V"⟩
abbrev cX4_readBack : ByteArray := prog_6_method_5_code
def yX4_readBack : MethodName := ⟨RX4, "readBack", "(II)V"⟩
abbrev cX4_toldAt : ByteArray := prog_6_method_6_code
def yX4_toldAt : MethodName := ⟨RX4, "toldAt", "(I)I"⟩
abbrev cX4_otherEndFrom : ByteArray := prog_6_method_7_code
def yX4_otherEndFrom : MethodName := ⟨RX4, "otherEndFrom", "(I)I"⟩
def RX5 : String := "TimeBench$Shelf"
def TX5 : u_T := fun k => match k with
  | 0 => ("TimeBench$Shelf", "kinds", "[I", true)
  | 1 => ("TimeBench$Shelf", "clocks", "[LTimeBench$Clock;", true)
  | _ => ("TimeBench$Shelf", "links", "[LTimeBench$Link;", true)
def tyX5 : Nat → FieldType := fun k => match k with
  | 0 => .array .int
  | 1 => .array (.object "TimeBench$Clock")
  | _ => .array (.object "TimeBench$Link")
abbrev wsX50 : List Cond := u_ws RX5 TX5 3
theorem nmX5 : ∀ a, a < 3 → ∀ b, b < 3 → a ≠ b → (TX5 a).2.1 ≠ (TX5 b).2.1 := by decide +kernel
theorem tyX5_ok : ∀ k, k < 3 → parseFieldDescriptor (TX5 k).2.2.1 = some (tyX5 k) := by decide +kernel
abbrev cX5_init : ByteArray := prog_7_method_1_code
def yX5_init : MethodName := ⟨RX5, "<init>", "()V"⟩
abbrev cX5_kindAt : ByteArray := prog_7_method_2_code
def yX5_kindAt : MethodName := ⟨RX5, "kindAt", "(I)I"⟩
abbrev cX5_clockAt : ByteArray := prog_7_method_3_code
def yX5_clockAt : MethodName := ⟨RX5, "clockAt", "(I)LTimeBench$Clock;"⟩
abbrev cX5_linkAt : ByteArray := prog_7_method_4_code
def yX5_linkAt : MethodName := ⟨RX5, "linkAt", "(I)LTimeBench$Link;"⟩
abbrev cX5_layClock : ByteArray := prog_7_method_5_code
def yX5_layClock : MethodName := ⟨RX5, "layClock", "(IIIII)Z"⟩
abbrev cX5_layLink : ByteArray := prog_7_method_6_code
def yX5_layLink : MethodName := ⟨RX5, "layLink", "(IIII)Z"⟩
abbrev cX5_layLamp : ByteArray := prog_7_method_7_code
def yX5_layLamp : MethodName := ⟨RX5, "layLamp", "(I)Z"⟩
abbrev cX5_empty : ByteArray := prog_7_method_8_code
def yX5_empty : MethodName := ⟨RX5, "empty", "(I)V"⟩
abbrev cX5_hasLinkOf : ByteArray := prog_7_method_9_code
def yX5_hasLinkOf : MethodName := ⟨RX5, "hasLinkOf", "(I)Z"⟩
abbrev cX5_toldBetween : ByteArray := prog_7_method_10_code
def yX5_toldBetween : MethodName := ⟨RX5, "toldBetween", "(III)I"⟩
def RX6 : String := "TimeBench$Steps"
def TX6 : u_T := fun k => match k with
  | 0 => ("TimeBench$Steps", "hours", "[I", true)
  | 1 => ("TimeBench$Steps", "places", "[I", true)
  | 2 => ("TimeBench$Steps", "misses", "[I", true)
  | _ => ("TimeBench$Steps", "count", "I", false)
def tyX6 : Nat → FieldType := fun k => match k with
  | 0 => .array .int
  | 1 => .array .int
  | 2 => .array .int
  | _ => .int
abbrev wsX60 : List Cond := u_ws RX6 TX6 4
theorem nmX6 : ∀ a, a < 4 → ∀ b, b < 4 → a ≠ b → (TX6 a).2.1 ≠ (TX6 b).2.1 := by decide +kernel
theorem tyX6_ok : ∀ k, k < 4 → parseFieldDescriptor (TX6 k).2.2.1 = some (tyX6 k) := by decide +kernel
abbrev cX6_init : ByteArray := prog_8_method_1_code
def yX6_init : MethodName := ⟨RX6, "<init>", "()V"⟩
abbrev cX6_add : ByteArray := prog_8_method_2_code
def yX6_add : MethodName := ⟨RX6, "add", "(III)V"⟩
abbrev cX6_valueOf : ByteArray := prog_8_method_3_code
def yX6_valueOf : MethodName := ⟨RX6, "valueOf", "(II)I"⟩
def RX7 : String := "TimeBench$Told"
def TX7 : u_T := fun k => match k with
  | 0 => ("TimeBench$Told", "clockRows", "[[I", true)
  | _ => ("TimeBench$Told", "paperRows", "[[I", true)
def tyX7 : Nat → FieldType := fun k => match k with
  | 0 => .array (.array .int)
  | _ => .array (.array .int)
abbrev wsX70 : List Cond := u_ws RX7 TX7 2
theorem nmX7 : ∀ a, a < 2 → ∀ b, b < 2 → a ≠ b → (TX7 a).2.1 ≠ (TX7 b).2.1 := by decide +kernel
theorem tyX7_ok : ∀ k, k < 2 → parseFieldDescriptor (TX7 k).2.2.1 = some (tyX7 k) := by decide +kernel
abbrev cX7_init : ByteArray := prog_9_method_1_code
def yX7_init : MethodName := ⟨RX7, "<init>", "()V"⟩
abbrev cX7_tell : ByteArray := prog_9_method_2_code
def yX7_tell : MethodName := ⟨RX7, "tell", "(IIII)V"⟩
abbrev cX7_tellPaper : ByteArray := prog_9_method_3_code
def yX7_tellPaper : MethodName := ⟨RX7, "tellPaper", "(III)V"⟩
abbrev cX7_ofClock : ByteArray := prog_9_method_4_code
def yX7_ofClock : MethodName := ⟨RX7, "ofClock", "(III)I"⟩
abbrev cX7_ofPaper : ByteArray := prog_9_method_5_code
def yX7_ofPaper : MethodName := ⟨RX7, "ofPaper", "(II)I"⟩
def RX8 : String := "TimeBench$Ways"
def TX8 : u_T := fun k => match k with
  | 0 => ("TimeBench$Ways", "shelf", "LTimeBench$Shelf;", true)
  | 1 => ("TimeBench$Ways", "queue", "[I", true)
  | 2 => ("TimeBench$Ways", "lengths", "[I", true)
  | 3 => ("TimeBench$Ways", "sums", "[I", true)
  | 4 => ("TimeBench$Ways", "lastLinks", "[I", true)
  | 5 => ("TimeBench$Ways", "ahead", "[I", true)
  | _ => ("TimeBench$Ways", "queued", "I", false)
def tyX8 : Nat → FieldType := fun k => match k with
  | 0 => .object "TimeBench$Shelf"
  | 1 => .array .int
  | 2 => .array .int
  | 3 => .array .int
  | 4 => .array .int
  | 5 => .array .int
  | _ => .int
abbrev wsX80 : List Cond := u_ws RX8 TX8 7
theorem nmX8 : ∀ a, a < 7 → ∀ b, b < 7 → a ≠ b → (TX8 a).2.1 ≠ (TX8 b).2.1 := by decide +kernel
theorem tyX8_ok : ∀ k, k < 7 → parseFieldDescriptor (TX8 k).2.2.1 = some (tyX8 k) := by decide +kernel
abbrev cX8_init : ByteArray := prog_10_method_1_code
def yX8_init : MethodName := ⟨RX8, "<init>", "(LTimeBench$Shelf;)V"⟩
abbrev cX8_spread : ByteArray := prog_10_method_2_code
def yX8_spread : MethodName := ⟨RX8, "spread", "(II)V"⟩
abbrev cX8_spreadOn : ByteArray := prog_10_method_3_code
def yX8_spreadOn : MethodName := ⟨RX8, "spreadOn", "(II)V"⟩
abbrev cX8_reach : ByteArray := prog_10_method_4_code
def yX8_reach : MethodName := ⟨RX8, "reach", "(IIIII)V"⟩
abbrev cX8_lengthTo : ByteArray := prog_10_method_5_code
def yX8_lengthTo : MethodName := ⟨RX8, "lengthTo", "(I)I"⟩
abbrev cX8_sumTo : ByteArray := prog_10_method_6_code
def yX8_sumTo : MethodName := ⟨RX8, "sumTo", "(I)I"⟩
abbrev cX8_writeWay : ByteArray := prog_10_method_7_code
def yX8_writeWay : MethodName := ⟨RX8, "writeWay", "(IIZ[I)V"⟩
def RX9 : String := "TimeBench"
def TX9 : u_T := fun k => match k with
  | 0 => ("TimeBench", "shelf", "LTimeBench$Shelf;", true)
  | 1 => ("TimeBench", "told", "LTimeBench$Told;", true)
  | 2 => ("TimeBench", "steps", "LTimeBench$Steps;", true)
  | 3 => ("TimeBench", "ways", "LTimeBench$Ways;", true)
  | 4 => ("TimeBench", "foretelling", "LTimeBench$Foretelling;", true)
  | 5 => ("TimeBench", "closing", "LTimeBench$Closing;", true)
  | 6 => ("TimeBench", "wayTold", "[I", true)
  | 7 => ("TimeBench", "wayLength", "I", false)
  | 8 => ("TimeBench", "now", "I", false)
  | 9 => ("TimeBench", "part", "I", false)
  | 10 => ("TimeBench", "times", "I", false)
  | 11 => ("TimeBench", "pace", "I", false)
  | _ => ("TimeBench", "scaleOff", "I", false)
def tyX9 : Nat → FieldType := fun k => match k with
  | 0 => .object "TimeBench$Shelf"
  | 1 => .object "TimeBench$Told"
  | 2 => .object "TimeBench$Steps"
  | 3 => .object "TimeBench$Ways"
  | 4 => .object "TimeBench$Foretelling"
  | 5 => .object "TimeBench$Closing"
  | 6 => .array .int
  | 7 => .int
  | 8 => .int
  | 9 => .int
  | 10 => .int
  | 11 => .int
  | _ => .int
abbrev wsX90 : List Cond := u_ws RX9 TX9 13
theorem nmX9 : ∀ a, a < 13 → ∀ b, b < 13 → a ≠ b → (TX9 a).2.1 ≠ (TX9 b).2.1 := by decide +kernel
theorem tyX9_ok : ∀ k, k < 13 → parseFieldDescriptor (TX9 k).2.2.1 = some (tyX9 k) := by decide +kernel
abbrev cX9_init : ByteArray := prog_1_method_1_code
def yX9_init : MethodName := ⟨RX9, "<init>", "()V"⟩
abbrev cX9_put : ByteArray := prog_1_method_2_code
def yX9_put : MethodName := ⟨RX9, "put", "(IIII)I"⟩
abbrev cX9_lift : ByteArray := prog_1_method_3_code
def yX9_lift : MethodName := ⟨RX9, "lift", "(I)I"⟩
abbrev cX9_kind : ByteArray := prog_1_method_4_code
def yX9_kind : MethodName := ⟨RX9, "kind", "(I)I"⟩
abbrev cX9_read : ByteArray := prog_1_method_5_code
def yX9_read : MethodName := ⟨RX9, "read", "(II)I"⟩
abbrev cX9_back : ByteArray := prog_1_method_6_code
def yX9_back : MethodName := ⟨RX9, "back", "(II)I"⟩
abbrev cX9_tear : ByteArray := prog_1_method_7_code
def yX9_tear : MethodName := ⟨RX9, "tear", "(I)I"⟩
abbrev cX9_way : ByteArray := prog_1_method_8_code
def yX9_way : MethodName := ⟨RX9, "way", "(II)I"⟩
abbrev cX9_tells : ByteArray := prog_1_method_9_code
def yX9_tells : MethodName := ⟨RX9, "tells", "(II)I"⟩
abbrev cX9_difference : ByteArray := prog_1_method_10_code
def yX9_difference : MethodName := ⟨RX9, "difference", "(III)I"⟩
abbrev cX9_along : ByteArray := prog_1_method_11_code
def yX9_along : MethodName := ⟨RX9, "along", "(III)I"⟩
abbrev cX9_link : ByteArray := prog_1_method_12_code
def yX9_link : MethodName := ⟨RX9, "link", "(I)I"⟩
abbrev cX9_take : ByteArray := prog_1_method_13_code
def yX9_take : MethodName := ⟨RX9, "take", "(I)I"⟩
abbrev cX9_leave : ByteArray := prog_1_method_14_code
def yX9_leave : MethodName := ⟨RX9, "leave", "(I)I"⟩
abbrev cX9_call : ByteArray := prog_1_method_15_code
def yX9_call : MethodName := ⟨RX9, "call", "(IZ)I"⟩
abbrev cX9_steer : ByteArray := prog_1_method_16_code
def yX9_steer : MethodName := ⟨RX9, "steer", "(II)I"⟩
abbrev cX9_set : ByteArray := prog_1_method_17_code
def yX9_set : MethodName := ⟨RX9, "set", "(II)Z"⟩
abbrev cX9_close : ByteArray := prog_1_method_18_code
def yX9_close : MethodName := ⟨RX9, "close", "()I"⟩
abbrev cX9_hour : ByteArray := prog_1_method_19_code
def yX9_hour : MethodName := ⟨RX9, "hour", "()I"⟩
abbrev cX9_clock : ByteArray := prog_1_method_20_code
def yX9_clock : MethodName := ⟨RX9, "clock", "(II)I"⟩
abbrev cX9_foretell : ByteArray := prog_1_method_21_code
def yX9_foretell : MethodName := ⟨RX9, "foretell", "(I)I"⟩
abbrev cX9_slope : ByteArray := prog_1_method_22_code
def yX9_slope : MethodName := ⟨RX9, "slope", "(II)I"⟩
abbrev cX9_weight : ByteArray := prog_1_method_23_code
def yX9_weight : MethodName := ⟨RX9, "weight", "(I)I"⟩
abbrev cX9_as : ByteArray := prog_1_method_24_code
def yX9_as : MethodName := ⟨RX9, "as", "(III)I"⟩
abbrev cX9_paper : ByteArray := prog_1_method_25_code
def yX9_paper : MethodName := ⟨RX9, "paper", "(II)I"⟩
abbrev cX9_step : ByteArray := prog_1_method_26_code
def yX9_step : MethodName := ⟨RX9, "step", "(II)I"⟩
abbrev cX9_show : ByteArray := prog_1_method_27_code
def yX9_show : MethodName := ⟨RX9, "show", "(I)Z"⟩
abbrev cX9_off : ByteArray := prog_1_method_28_code
def yX9_off : MethodName := ⟨RX9, "off", "()I"⟩
abbrev cX9_ring : ByteArray := prog_1_method_29_code
def yX9_ring : MethodName := ⟨RX9, "ring", "(IIII)I"⟩
abbrev cX9_findWay : ByteArray := prog_1_method_30_code
def yX9_findWay : MethodName := ⟨RX9, "findWay", "(III)I"⟩
abbrev cX9_moveScale : ByteArray := prog_1_method_31_code
def yX9_moveScale : MethodName := ⟨RX9, "moveScale", "()V"⟩
abbrev cX9_hasCome : ByteArray := prog_1_method_32_code
def yX9_hasCome : MethodName := ⟨RX9, "hasCome", "(I)Z"⟩
abbrev cX9_refusalAt : ByteArray := prog_1_method_33_code
def yX9_refusalAt : MethodName := ⟨RX9, "refusalAt", "(I)I"⟩
abbrev cX9_refusalOfClocks : ByteArray := prog_1_method_34_code
def yX9_refusalOfClocks : MethodName := ⟨RX9, "refusalOfClocks", "(II)I"⟩
abbrev cX9_isPlace : ByteArray := prog_1_method_35_code
def yX9_isPlace : MethodName := ⟨RX9, "isPlace", "(I)Z"⟩
abbrev cX9_isClockKind : ByteArray := prog_1_method_36_code
def yX9_isClockKind : MethodName := ⟨RX9, "isClockKind", "(I)Z"⟩
abbrev cX9_isLinkKind : ByteArray := prog_1_method_37_code
def yX9_isLinkKind : MethodName := ⟨RX9, "isLinkKind", "(I)Z"⟩
abbrev cX9_isWithin : ByteArray := prog_1_method_38_code
def yX9_isWithin : MethodName := ⟨RX9, "isWithin", "(II)Z"⟩
abbrev cX9_cut : ByteArray := prog_1_method_39_code
def yX9_cut : MethodName := ⟨RX9, "cut", "(JI)I"⟩
def RX10 : String := "TimeBenchModel"
def TX10 : u_T := fun k => match k with
  | 0 => ("TimeBenchModel", "kinds", "[I", true)
  | 1 => ("TimeBenchModel", "one", "[I", true)
  | 2 => ("TimeBenchModel", "two", "[I", true)
  | 3 => ("TimeBenchModel", "taken", "[Z", true)
  | 4 => ("TimeBenchModel", "called", "[Z", true)
  | 5 => ("TimeBenchModel", "isOut", "[Z", true)
  | 6 => ("TimeBenchModel", "setting", "[I", true)
  | 7 => ("TimeBenchModel", "since", "[I", true)
  | 8 => ("TimeBenchModel", "suspect", "[I", true)
  | 9 => ("TimeBenchModel", "stepMany", "[I", true)
  | 10 => ("TimeBenchModel", "drifts", "[I", true)
  | 11 => ("TimeBenchModel", "ways", "[I", true)
  | 12 => ("TimeBenchModel", "there", "[I", true)
  | 13 => ("TimeBenchModel", "backs", "[I", true)
  | 14 => ("TimeBenchModel", "hasThere", "[Z", true)
  | 15 => ("TimeBenchModel", "hasBack", "[Z", true)
  | 16 => ("TimeBenchModel", "hasX", "[Z", true)
  | 17 => ("TimeBenchModel", "hasF", "[Z", true)
  | 18 => ("TimeBenchModel", "xs", "[I", true)
  | 19 => ("TimeBenchModel", "fs", "[I", true)
  | 20 => ("TimeBenchModel", "ms", "[I", true)
  | 21 => ("TimeBenchModel", "ws", "[I", true)
  | 22 => ("TimeBenchModel", "ds", "[I", true)
  | 23 => ("TimeBenchModel", "roots", "[I", true)
  | 24 => ("TimeBenchModel", "presents", "[I", true)
  | 25 => ("TimeBenchModel", "rests", "[I", true)
  | 26 => ("TimeBenchModel", "offs", "[I", true)
  | 27 => ("TimeBenchModel", "parts", "[I", true)
  | 28 => ("TimeBenchModel", "sums", "[I", true)
  | 29 => ("TimeBenchModel", "now", "I", false)
  | 30 => ("TimeBenchModel", "part", "I", false)
  | 31 => ("TimeBenchModel", "times", "I", false)
  | 32 => ("TimeBenchModel", "pace", "I", false)
  | 33 => ("TimeBenchModel", "off", "I", false)
  | 34 => ("TimeBenchModel", "stepHour", "[I", true)
  | 35 => ("TimeBenchModel", "stepPlace", "[I", true)
  | 36 => ("TimeBenchModel", "stepMissed", "[I", true)
  | 37 => ("TimeBenchModel", "steps", "I", false)
  | 38 => ("TimeBenchModel", "far", "[I", true)
  | 39 => ("TimeBenchModel", "going", "[I", true)
  | 40 => ("TimeBenchModel", "gone", "[I", true)
  | 41 => ("TimeBenchModel", "goings", "I", false)
  | 42 => ("TimeBenchModel", "gones", "I", false)
  | 43 => ("TimeBenchModel", "difference", "I", false)
  | 44 => ("TimeBenchModel", "points", "I", false)
  | 45 => ("TimeBenchModel", "above", "J", false)
  | 46 => ("TimeBenchModel", "below", "J", false)
  | 47 => ("TimeBenchModel", "lineAt", "J", false)
  | _ => ("TimeBenchModel", "present", "[Z", true)
def tyX10 : Nat → FieldType := fun k => match k with
  | 0 => .array .int
  | 1 => .array .int
  | 2 => .array .int
  | 3 => .array .boolean
  | 4 => .array .boolean
  | 5 => .array .boolean
  | 6 => .array .int
  | 7 => .array .int
  | 8 => .array .int
  | 9 => .array .int
  | 10 => .array .int
  | 11 => .array .int
  | 12 => .array .int
  | 13 => .array .int
  | 14 => .array .boolean
  | 15 => .array .boolean
  | 16 => .array .boolean
  | 17 => .array .boolean
  | 18 => .array .int
  | 19 => .array .int
  | 20 => .array .int
  | 21 => .array .int
  | 22 => .array .int
  | 23 => .array .int
  | 24 => .array .int
  | 25 => .array .int
  | 26 => .array .int
  | 27 => .array .int
  | 28 => .array .int
  | 29 => .int
  | 30 => .int
  | 31 => .int
  | 32 => .int
  | 33 => .int
  | 34 => .array .int
  | 35 => .array .int
  | 36 => .array .int
  | 37 => .int
  | 38 => .array .int
  | 39 => .array .int
  | 40 => .array .int
  | 41 => .int
  | 42 => .int
  | 43 => .int
  | 44 => .int
  | 45 => .long
  | 46 => .long
  | 47 => .long
  | _ => .array .boolean
abbrev wsX100 : List Cond := u_ws RX10 TX10 49
theorem nmX10 : ∀ a, a < 49 → ∀ b, b < 49 → a ≠ b → (TX10 a).2.1 ≠ (TX10 b).2.1 := by decide +kernel
theorem tyX10_ok : ∀ k, k < 49 → parseFieldDescriptor (TX10 k).2.2.1 = some (tyX10 k) := by decide +kernel
abbrev cX10_init : ByteArray := prog_12_method_1_code
def yX10_init : MethodName := ⟨RX10, "<init>", "()V"⟩
abbrev cX10_isIn : ByteArray := prog_12_method_2_code
def yX10_isIn : MethodName := ⟨RX10, "isIn", "(III)Z"⟩
abbrev cX10_at : ByteArray := prog_12_method_3_code
def yX10_at : MethodName := ⟨RX10, "at", "(II)I"⟩
abbrev cX10_isClock : ByteArray := prog_12_method_4_code
def yX10_isClock : MethodName := ⟨RX10, "isClock", "(I)Z"⟩
abbrev cX10_isLink : ByteArray := prog_12_method_5_code
def yX10_isLink : MethodName := ⟨RX10, "isLink", "(I)Z"⟩
abbrev cX10_fails : ByteArray := prog_12_method_6_code
def yX10_fails : MethodName := ⟨RX10, "fails", "(III)I"⟩
abbrev cX10_put : ByteArray := prog_12_method_7_code
def yX10_put : MethodName := ⟨RX10, "put", "(IIII)I"⟩
abbrev cX10_lift : ByteArray := prog_12_method_8_code
def yX10_lift : MethodName := ⟨RX10, "lift", "(I)I"⟩
abbrev cX10_kind : ByteArray := prog_12_method_9_code
def yX10_kind : MethodName := ⟨RX10, "kind", "(I)I"⟩
abbrev cX10_read : ByteArray := prog_12_method_10_code
def yX10_read : MethodName := ⟨RX10, "read", "(II)I"⟩
abbrev cX10_back : ByteArray := prog_12_method_11_code
def yX10_back : MethodName := ⟨RX10, "back", "(II)I"⟩
abbrev cX10_tear : ByteArray := prog_12_method_12_code
def yX10_tear : MethodName := ⟨RX10, "tear", "(I)I"⟩
abbrev cX10_way : ByteArray := prog_12_method_13_code
def yX10_way : MethodName := ⟨RX10, "way", "(II)I"⟩
abbrev cX10_told : ByteArray := prog_12_method_14_code
def yX10_told : MethodName := ⟨RX10, "told", "(II)I"⟩
abbrev cX10_tells : ByteArray := prog_12_method_15_code
def yX10_tells : MethodName := ⟨RX10, "tells", "(II)I"⟩
abbrev cX10_other : ByteArray := prog_12_method_16_code
def yX10_other : MethodName := ⟨RX10, "other", "(II)I"⟩
abbrev cX10_goes : ByteArray := prog_12_method_17_code
def yX10_goes : MethodName := ⟨RX10, "goes", "(III)Z"⟩
abbrev cX10_difference : ByteArray := prog_12_method_18_code
def yX10_difference : MethodName := ⟨RX10, "difference", "(III)I"⟩
abbrev cX10_along : ByteArray := prog_12_method_19_code
def yX10_along : MethodName := ⟨RX10, "along", "(III)I"⟩
abbrev cX10_link : ByteArray := prog_12_method_20_code
def yX10_link : MethodName := ⟨RX10, "link", "(I)I"⟩
abbrev cX10_take : ByteArray := prog_12_method_21_code
def yX10_take : MethodName := ⟨RX10, "take", "(I)I"⟩
abbrev cX10_leave : ByteArray := prog_12_method_22_code
def yX10_leave : MethodName := ⟨RX10, "leave", "(I)I"⟩
abbrev cX10_call : ByteArray := prog_12_method_23_code
def yX10_call : MethodName := ⟨RX10, "call", "(IZ)I"⟩
abbrev cX10_steer : ByteArray := prog_12_method_24_code
def yX10_steer : MethodName := ⟨RX10, "steer", "(II)I"⟩
abbrev cX10_set : ByteArray := prog_12_method_25_code
def yX10_set : MethodName := ⟨RX10, "set", "(II)Z"⟩
abbrev cX10_isTaken : ByteArray := prog_12_method_26_code
def yX10_isTaken : MethodName := ⟨RX10, "isTaken", "(I)Z"⟩
abbrev cX10_isX : ByteArray := prog_12_method_27_code
def yX10_isX : MethodName := ⟨RX10, "isX", "(II)Z"⟩
abbrev cX10_isMissed : ByteArray := prog_12_method_28_code
def yX10_isMissed : MethodName := ⟨RX10, "isMissed", "(II)Z"⟩
abbrev cX10_isGain : ByteArray := prog_12_method_29_code
def yX10_isGain : MethodName := ⟨RX10, "isGain", "(II)Z"⟩
abbrev cX10_downwards : ByteArray := prog_12_method_30_code
def yX10_downwards : MethodName := ⟨RX10, "downwards", "(JJ)J"⟩
abbrev cX10_line : ByteArray := prog_12_method_31_code
def yX10_line : MethodName := ⟨RX10, "line", "(IZ)V"⟩
abbrev cX10_byGains : ByteArray := prog_12_method_32_code
def yX10_byGains : MethodName := ⟨RX10, "byGains", "(I)Z"⟩
abbrev cX10_foretold : ByteArray := prog_12_method_33_code
def yX10_foretold : MethodName := ⟨RX10, "foretold", "(I)I"⟩
abbrev cX10_full : ByteArray := prog_12_method_34_code
def yX10_full : MethodName := ⟨RX10, "full", "(I)I"⟩
abbrev cX10_clock : ByteArray := prog_12_method_35_code
def yX10_clock : MethodName := ⟨RX10, "clock", "(II)I"⟩
abbrev cX10_foretell : ByteArray := prog_12_method_36_code
def yX10_foretell : MethodName := ⟨RX10, "foretell", "(I)I"⟩
abbrev cX10_common : ByteArray := prog_12_method_37_code
def yX10_common : MethodName := ⟨RX10, "common", "(JJ)J"⟩
abbrev cX10_slope : ByteArray := prog_12_method_38_code
def yX10_slope : MethodName := ⟨RX10, "slope", "(II)I"⟩
abbrev cX10_weight : ByteArray := prog_12_method_39_code
def yX10_weight : MethodName := ⟨RX10, "weight", "(I)I"⟩
abbrev cX10_root : ByteArray := prog_12_method_40_code
def yX10_root : MethodName := ⟨RX10, "root", "()I"⟩
abbrev cX10_close : ByteArray := prog_12_method_41_code
def yX10_close : MethodName := ⟨RX10, "close", "()I"⟩
abbrev cX10_closes : ByteArray := prog_12_method_42_code
def yX10_closes : MethodName := ⟨RX10, "closes", "(I)I"⟩
abbrev cX10_amount : ByteArray := prog_12_method_43_code
def yX10_amount : MethodName := ⟨RX10, "amount", "(I)I"⟩
abbrev cX10_looks : ByteArray := prog_12_method_44_code
def yX10_looks : MethodName := ⟨RX10, "looks", "(II)V"⟩
abbrev cX10_steps : ByteArray := prog_12_method_45_code
def yX10_steps : MethodName := ⟨RX10, "steps", "(II)V"⟩
abbrev cX10_hour : ByteArray := prog_12_method_46_code
def yX10_hour : MethodName := ⟨RX10, "hour", "()I"⟩
abbrev cX10_as : ByteArray := prog_12_method_47_code
def yX10_as : MethodName := ⟨RX10, "as", "(III)I"⟩
abbrev cX10_paper : ByteArray := prog_12_method_48_code
def yX10_paper : MethodName := ⟨RX10, "paper", "(II)I"⟩
abbrev cX10_step : ByteArray := prog_12_method_49_code
def yX10_step : MethodName := ⟨RX10, "step", "(II)I"⟩
abbrev cX10_show : ByteArray := prog_12_method_50_code
def yX10_show : MethodName := ⟨RX10, "show", "(I)Z"⟩
abbrev cX10_off : ByteArray := prog_12_method_51_code
def yX10_off : MethodName := ⟨RX10, "off", "()I"⟩
abbrev cX10_direct : ByteArray := prog_12_method_52_code
def yX10_direct : MethodName := ⟨RX10, "direct", "(III)I"⟩
abbrev cX10_ring : ByteArray := prog_12_method_53_code
def yX10_ring : MethodName := ⟨RX10, "ring", "(IIII)I"⟩
def RJ9 : String := "java/lang/Math"
def TJ9 : u_T := fun k => match k with
  | _ => ("", "", "", false)
def tyJ9 : Nat → FieldType := fun k => match k with
  | _ => .int
abbrev cJ9_floorDiv_f86c9 : ByteArray := prog_13_method_49_code
def yJ9_floorDiv_f86c9 : MethodName := ⟨RJ9, "floorDiv", "(JJ)J"⟩
abbrev cJ9_floorMod_f86c9 : ByteArray := prog_13_method_52_code
def yJ9_floorMod_f86c9 : MethodName := ⟨RJ9, "floorMod", "(JJ)J"⟩
abbrev cJ9_abs_0f7a4 : ByteArray := prog_13_method_59_code
def yJ9_abs_0f7a4 : MethodName := ⟨RJ9, "abs", "(I)I"⟩
abbrev cJ9_abs_067f4 : ByteArray := prog_13_method_61_code
def yJ9_abs_067f4 : MethodName := ⟨RJ9, "abs", "(J)J"⟩
abbrev cJ9_max_7cf53 : ByteArray := prog_13_method_65_code
def yJ9_max_7cf53 : MethodName := ⟨RJ9, "max", "(II)I"⟩
abbrev cJ9_max_f86c9 : ByteArray := prog_13_method_66_code
def yJ9_max_f86c9 : MethodName := ⟨RJ9, "max", "(JJ)J"⟩
abbrev cJ9_min_7cf53 : ByteArray := prog_13_method_69_code
def yJ9_min_7cf53 : MethodName := ⟨RJ9, "min", "(II)I"⟩
abbrev cJ9_min_f86c9 : ByteArray := prog_13_method_70_code
def yJ9_min_f86c9 : MethodName := ⟨RJ9, "min", "(JJ)J"⟩
def RJ7 : String := "java/util/Arrays"
def TJ7 : u_T := fun k => match k with
  | _ => ("", "", "", false)
def tyJ7 : Nat → FieldType := fun k => match k with
  | _ => .int
abbrev cJ7_fill_53178 : ByteArray := prog_14_method_103_code
def yJ7_fill_53178 : MethodName := ⟨RJ7, "fill", "([II)V"⟩
def RL : String := "TimeBenchLaw"
abbrev cL_law : ByteArray := code
def yL_law : MethodName := ⟨RL, "law", "([I)Z"⟩
abbrev vwCl : List vw_C := [(RX0, TX0, 12), (RX1, TX1, 7), (RX2, TX2, 7), (RX3, TX3, 5), (RX4, TX4, 6), (RX5, TX5, 3), (RX6, TX6, 4), (RX7, TX7, 2), (RX8, TX8, 7), (RX9, TX9, 13), (RX10, TX10, 49)]
