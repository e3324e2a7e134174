/-- the tables' words that go to every method -/
def TB : List Cond := lw_tbl.filter goodWord
theorem TB_good {w : Cond} (h : w ∈ TB) : goodWord w = true := (List.mem_filter.mp h).2
theorem TB_in {w : Cond} (h : w ∈ TB) : w ∈ lw_tbl := (List.mem_filter.mp h).1
theorem tbm0 {i : Nat} {w : Cond} (h : (k2_sels lw_privs)[i]? = some w) (hg : goodWord w = true) : w ∈ TB := List.mem_filter.mpr ⟨List.mem_append_left _ (List.mem_of_getElem? h), hg⟩
theorem tbi1 {i : Nat} {w : Cond} (h : tables_1_1[i]? = some w) : w ∈ lw_tbl := List.mem_append_right _ (List.mem_append_left _ (List.mem_of_getElem? h))
theorem tbm1 {i : Nat} {w : Cond} (h : tables_1_1[i]? = some w) (hg : goodWord w = true) : w ∈ TB := List.mem_filter.mpr ⟨tbi1 h, hg⟩
theorem tbi2 {i : Nat} {w : Cond} (h : tables_1_2[i]? = some w) : w ∈ lw_tbl := List.mem_append_right _ (List.mem_append_right _ (List.mem_append_left _ (List.mem_of_getElem? h)))
theorem tbm2 {i : Nat} {w : Cond} (h : tables_1_2[i]? = some w) (hg : goodWord w = true) : w ∈ TB := List.mem_filter.mpr ⟨tbi2 h, hg⟩
theorem tbi3 {i : Nat} {w : Cond} (h : tables_1_3[i]? = some w) : w ∈ lw_tbl := List.mem_append_right _ (List.mem_append_right _ (List.mem_append_right _ (List.mem_append_left _ (List.mem_of_getElem? h))))
theorem tbm3 {i : Nat} {w : Cond} (h : tables_1_3[i]? = some w) (hg : goodWord w = true) : w ∈ TB := List.mem_filter.mpr ⟨tbi3 h, hg⟩
theorem tbi4 {i : Nat} {w : Cond} (h : tables_1_4[i]? = some w) : w ∈ lw_tbl := List.mem_append_right _ (List.mem_append_right _ (List.mem_append_right _ (List.mem_append_right _ (List.mem_append_left _ (List.mem_of_getElem? h)))))
theorem tbm4 {i : Nat} {w : Cond} (h : tables_1_4[i]? = some w) (hg : goodWord w = true) : w ∈ TB := List.mem_filter.mpr ⟨tbi4 h, hg⟩
theorem tbi5 {i : Nat} {w : Cond} (h : tables_1_5[i]? = some w) : w ∈ lw_tbl := List.mem_append_right _ (List.mem_append_right _ (List.mem_append_right _ (List.mem_append_right _ (List.mem_append_right _ (List.mem_of_getElem? h)))))
theorem tbm5 {i : Nat} {w : Cond} (h : tables_1_5[i]? = some w) (hg : goodWord w = true) : w ∈ TB := List.mem_filter.mpr ⟨tbi5 h, hg⟩
theorem TS_X9_refusalAt : Cond.selects RX9 yX9_refusalAt yX9_refusalAt ∈ TB := tbm0 (i := 0) rfl rfl
theorem TS_X9_hasCome : Cond.selects RX9 yX9_hasCome yX9_hasCome ∈ TB := tbm0 (i := 1) rfl rfl
theorem TS_X9_refusalOfClocks : Cond.selects RX9 yX9_refusalOfClocks yX9_refusalOfClocks ∈ TB := tbm0 (i := 2) rfl rfl
theorem TS_X9_findWay : Cond.selects RX9 yX9_findWay yX9_findWay ∈ TB := tbm0 (i := 3) rfl rfl
theorem TS_X8_reach : Cond.selects RX8 yX8_reach yX8_reach ∈ TB := tbm0 (i := 4) rfl rfl
theorem TS_X8_spreadOn : Cond.selects RX8 yX8_spreadOn yX8_spreadOn ∈ TB := tbm0 (i := 5) rfl rfl
theorem TS_X1_leastTaken : Cond.selects RX1 yX1_leastTaken yX1_leastTaken ∈ TB := tbm0 (i := 6) rfl rfl
theorem TS_X1_hold : Cond.selects RX1 yX1_hold yX1_hold ∈ TB := tbm0 (i := 7) rfl rfl
theorem TS_X3_rawBelow : Cond.selects RX3 yX3_rawBelow yX3_rawBelow ∈ TB := tbm0 (i := 8) rfl rfl
theorem TS_X2_gatherMissed : Cond.selects RX2 yX2_gatherMissed yX2_gatherMissed ∈ TB := tbm0 (i := 9) rfl rfl
theorem TS_X1_weigh : Cond.selects RX1 yX1_weigh yX1_weigh ∈ TB := tbm0 (i := 10) rfl rfl
theorem TS_X1_makePaper : Cond.selects RX1 yX1_makePaper yX1_makePaper ∈ TB := tbm0 (i := 11) rfl rfl
theorem TS_X1_tellXs : Cond.selects RX1 yX1_tellXs yX1_tellXs ∈ TB := tbm0 (i := 12) rfl rfl
theorem TS_X1_judgeAll : Cond.selects RX1 yX1_judgeAll yX1_judgeAll ∈ TB := tbm0 (i := 13) rfl rfl
theorem TS_X1_judge : Cond.selects RX1 yX1_judge yX1_judge ∈ TB := tbm0 (i := 14) rfl rfl
theorem TS_X1_judgeSuspect : Cond.selects RX1 yX1_judgeSuspect yX1_judgeSuspect ∈ TB := tbm0 (i := 15) rfl rfl
theorem TS_X9_moveScale : Cond.selects RX9 yX9_moveScale yX9_moveScale ∈ TB := tbm0 (i := 16) rfl rfl
theorem TS_X3_divisorOfBoth : Cond.selects RX3 yX3_divisorOfBoth yX3_divisorOfBoth ∈ TB := tbm0 (i := 17) rfl rfl
theorem TS_X3_rawAbove : Cond.selects RX3 yX3_rawAbove yX3_rawAbove ∈ TB := tbm0 (i := 18) rfl rfl
theorem TS_X10_isClock : Cond.selects RX10 yX10_isClock yX10_isClock ∈ TB := tbm0 (i := 19) rfl rfl
theorem TS_X10_at : Cond.selects RX10 yX10_at yX10_at ∈ TB := tbm0 (i := 20) rfl rfl
theorem TS_X10_fails : Cond.selects RX10 yX10_fails yX10_fails ∈ TB := tbm0 (i := 21) rfl rfl
theorem TS_X10_isLink : Cond.selects RX10 yX10_isLink yX10_isLink ∈ TB := tbm0 (i := 22) rfl rfl
theorem TS_X10_told : Cond.selects RX10 yX10_told yX10_told ∈ TB := tbm0 (i := 23) rfl rfl
theorem TS_X10_goes : Cond.selects RX10 yX10_goes yX10_goes ∈ TB := tbm0 (i := 24) rfl rfl
theorem TS_X10_other : Cond.selects RX10 yX10_other yX10_other ∈ TB := tbm0 (i := 25) rfl rfl
theorem TS_X10_isX : Cond.selects RX10 yX10_isX yX10_isX ∈ TB := tbm0 (i := 26) rfl rfl
theorem TS_X10_isTaken : Cond.selects RX10 yX10_isTaken yX10_isTaken ∈ TB := tbm0 (i := 27) rfl rfl
theorem TS_X10_foretold : Cond.selects RX10 yX10_foretold yX10_foretold ∈ TB := tbm0 (i := 28) rfl rfl
theorem TS_X10_byGains : Cond.selects RX10 yX10_byGains yX10_byGains ∈ TB := tbm0 (i := 29) rfl rfl
theorem TS_X10_isGain : Cond.selects RX10 yX10_isGain yX10_isGain ∈ TB := tbm0 (i := 30) rfl rfl
theorem TS_X10_line : Cond.selects RX10 yX10_line yX10_line ∈ TB := tbm0 (i := 31) rfl rfl
theorem TS_X10_full : Cond.selects RX10 yX10_full yX10_full ∈ TB := tbm0 (i := 32) rfl rfl
theorem TS_X10_isMissed : Cond.selects RX10 yX10_isMissed yX10_isMissed ∈ TB := tbm0 (i := 33) rfl rfl
theorem TS_X10_root : Cond.selects RX10 yX10_root yX10_root ∈ TB := tbm0 (i := 34) rfl rfl
theorem TS_X10_closes : Cond.selects RX10 yX10_closes yX10_closes ∈ TB := tbm0 (i := 35) rfl rfl
theorem TS_X10_looks : Cond.selects RX10 yX10_looks yX10_looks ∈ TB := tbm0 (i := 36) rfl rfl
theorem TS_X10_steps : Cond.selects RX10 yX10_steps yX10_steps ∈ TB := tbm0 (i := 37) rfl rfl
theorem TS_X10_direct : Cond.selects RX10 yX10_direct yX10_direct ∈ TB := tbm0 (i := 38) rfl rfl
theorem TN_L : Cond.initialized RL ∈ TB := tbm1 (i := 0) rfl rfl
theorem TN_X9 : Cond.initialized RX9 ∈ TB := tbm1 (i := 1) rfl rfl
theorem TN_X5 : Cond.initialized RX5 ∈ TB := tbm1 (i := 2) rfl rfl
theorem TN_X0 : Cond.initialized RX0 ∈ TB := tbm1 (i := 3) rfl rfl
theorem TN_X4 : Cond.initialized RX4 ∈ TB := tbm1 (i := 4) rfl rfl
theorem TN_X7 : Cond.initialized RX7 ∈ TB := tbm1 (i := 5) rfl rfl
theorem TN_J7 : Cond.initialized RJ7 ∈ TB := tbm1 (i := 6) rfl rfl
theorem TN_X6 : Cond.initialized RX6 ∈ TB := tbm1 (i := 7) rfl rfl
theorem TN_X8 : Cond.initialized RX8 ∈ TB := tbm1 (i := 8) rfl rfl
theorem TN_X2 : Cond.initialized RX2 ∈ TB := tbm1 (i := 9) rfl rfl
theorem TN_X3 : Cond.initialized RX3 ∈ TB := tbm1 (i := 10) rfl rfl
theorem TN_X1 : Cond.initialized RX1 ∈ TB := tbm1 (i := 11) rfl rfl
theorem TN_X10 : Cond.initialized RX10 ∈ TB := tbm1 (i := 12) rfl rfl
theorem TN_J9 : Cond.initialized RJ9 ∈ TB := tbm1 (i := 13) rfl rfl
theorem TL_L_7 : Cond.classLink RL 7 RX9 ∈ TB := tbm1 (i := 14) rfl rfl
theorem TB_X9 : Cond.instantiable RX9 13 ∈ TB := tbm1 (i := 15) rfl rfl
theorem TM_L_9 : Cond.methodLink RL 9 yX9_init ∈ TB := tbm1 (i := 16) rfl rfl
theorem TI_X9_init : Cond.instanceMethod yX9_init ∈ TB := tbm1 (i := 17) rfl rfl
theorem TC_X9_init : Cond.code yX9_init cX9_init 1 none ∈ TB := tbm1 (i := 18) rfl rfl
theorem TM_X9_1 : Cond.methodLink RX9 1 objectInit ∈ TB := tbm1 (i := 19) rfl rfl
theorem TI_obj : Cond.instanceMethod objectInit ∈ TB := tbm1 (i := 20) rfl rfl
theorem TC_obj : Cond.code objectInit ⟨#[0xb1]⟩ 1 none ∈ TB := tbm1 (i := 21) rfl rfl
theorem TL_X9_7 : Cond.classLink RX9 7 RX5 ∈ TB := tbm1 (i := 22) rfl rfl
theorem TB_X5 : Cond.instantiable RX5 3 ∈ TB := tbm1 (i := 23) rfl rfl
theorem TM_X9_9 : Cond.methodLink RX9 9 yX5_init ∈ TB := tbm1 (i := 24) rfl rfl
theorem TI_X5_init : Cond.instanceMethod yX5_init ∈ TB := tbm1 (i := 25) rfl rfl
theorem TC_X5_init : Cond.code yX5_init cX5_init 2 none ∈ TB := tbm1 (i := 26) rfl rfl
theorem TM_X5_3 : Cond.methodLink RX5 3 objectInit ∈ TB := tbm1 (i := 27) rfl rfl
theorem TL_X5_15 : Cond.classLink RX5 15 RX0 ∈ TB := tbm1 (i := 28) rfl rfl
theorem TL_X5_21 : Cond.classLink RX5 21 RX4 ∈ TB := tbm1 (i := 30) rfl rfl
theorem TB_X0 : Cond.instantiable RX0 12 ∈ TB := tbm1 (i := 32) rfl rfl
theorem TM_X5_27 : Cond.methodLink RX5 27 yX0_init ∈ TB := tbm1 (i := 33) rfl rfl
theorem TI_X0_init : Cond.instanceMethod yX0_init ∈ TB := tbm1 (i := 34) rfl rfl
theorem TC_X0_init : Cond.code yX0_init cX0_init 2 none ∈ TB := tbm1 (i := 35) rfl rfl
theorem TM_X0_3 : Cond.methodLink RX0 3 objectInit ∈ TB := tbm1 (i := 36) rfl rfl
theorem TF_X0_46 : Cond.fieldLink RX0 46 "TimeBench$Clock" "place" "I" ∈ TB := tbm1 (i := 37) rfl rfl
theorem TF_X2_45 : Cond.fieldLink RX2 45 "TimeBench$Clock" "place" "I" ∈ TB := tbm1 (i := 38) rfl rfl
theorem TF_X1_62 : Cond.fieldLink RX1 62 "TimeBench$Clock" "place" "I" ∈ TB := tbm1 (i := 39) rfl rfl
theorem TF_X0_9 : Cond.fieldLink RX0 9 "TimeBench$Clock" "kind" "I" ∈ TB := tbm1 (i := 40) rfl rfl
theorem TF_X2_68 : Cond.fieldLink RX2 68 "TimeBench$Clock" "kind" "I" ∈ TB := tbm1 (i := 41) rfl rfl
theorem TF_X9_182 : Cond.fieldLink RX9 182 "TimeBench$Clock" "kind" "I" ∈ TB := tbm1 (i := 42) rfl rfl
theorem TF_X0_15 : Cond.fieldLink RX0 15 "TimeBench$Clock" "span" "I" ∈ TB := tbm1 (i := 43) rfl rfl
theorem TF_X2_61 : Cond.fieldLink RX2 61 "TimeBench$Clock" "span" "I" ∈ TB := tbm1 (i := 44) rfl rfl
theorem TF_X9_217 : Cond.fieldLink RX9 217 "TimeBench$Clock" "span" "I" ∈ TB := tbm1 (i := 45) rfl rfl
theorem TF_X0_18 : Cond.fieldLink RX0 18 "TimeBench$Clock" "reach" "I" ∈ TB := tbm1 (i := 46) rfl rfl
theorem TF_X2_104 : Cond.fieldLink RX2 104 "TimeBench$Clock" "reach" "I" ∈ TB := tbm1 (i := 47) rfl rfl
theorem TF_X9_220 : Cond.fieldLink RX9 220 "TimeBench$Clock" "reach" "I" ∈ TB := tbm1 (i := 48) rfl rfl
theorem TF_X0_21 : Cond.fieldLink RX0 21 "TimeBench$Clock" "setting" "I" ∈ TB := tbm1 (i := 49) rfl rfl
theorem TF_X1_105 : Cond.fieldLink RX1 105 "TimeBench$Clock" "setting" "I" ∈ TB := tbm1 (i := 50) rfl rfl
theorem TF_X9_190 : Cond.fieldLink RX9 190 "TimeBench$Clock" "setting" "I" ∈ TB := tbm1 (i := 51) rfl rfl
theorem TF_X0_24 : Cond.fieldLink RX0 24 "TimeBench$Clock" "taken" "Z" ∈ TB := tbm1 (i := 52) rfl rfl
theorem TF_X9_178 : Cond.fieldLink RX9 178 "TimeBench$Clock" "taken" "Z" ∈ TB := tbm1 (i := 53) rfl rfl
theorem TF_X0_28 : Cond.fieldLink RX0 28 "TimeBench$Clock" "called" "Z" ∈ TB := tbm1 (i := 54) rfl rfl
theorem TF_X9_183 : Cond.fieldLink RX9 183 "TimeBench$Clock" "called" "Z" ∈ TB := tbm1 (i := 55) rfl rfl
theorem TF_X0_31 : Cond.fieldLink RX0 31 "TimeBench$Clock" "out" "Z" ∈ TB := tbm1 (i := 56) rfl rfl
theorem TF_X2_88 : Cond.fieldLink RX2 88 "TimeBench$Clock" "out" "Z" ∈ TB := tbm1 (i := 57) rfl rfl
theorem TF_X1_138 : Cond.fieldLink RX1 138 "TimeBench$Clock" "out" "Z" ∈ TB := tbm1 (i := 58) rfl rfl
theorem TF_X9_207 : Cond.fieldLink RX9 207 "TimeBench$Clock" "out" "Z" ∈ TB := tbm1 (i := 59) rfl rfl
theorem TF_X0_34 : Cond.fieldLink RX0 34 "TimeBench$Clock" "since" "I" ∈ TB := tbm1 (i := 60) rfl rfl
theorem TF_X2_39 : Cond.fieldLink RX2 39 "TimeBench$Clock" "since" "I" ∈ TB := tbm1 (i := 61) rfl rfl
theorem TF_X0_37 : Cond.fieldLink RX0 37 "TimeBench$Clock" "suspectAt" "I" ∈ TB := tbm1 (i := 62) rfl rfl
theorem TF_X1_152 : Cond.fieldLink RX1 152 "TimeBench$Clock" "suspectAt" "I" ∈ TB := tbm1 (i := 63) rfl rfl
theorem TF_X9_210 : Cond.fieldLink RX9 210 "TimeBench$Clock" "suspectAt" "I" ∈ TB := tbm1 (i := 64) rfl rfl
theorem TF_X0_40 : Cond.fieldLink RX0 40 "TimeBench$Clock" "steps" "I" ∈ TB := tbm1 (i := 65) rfl rfl
theorem TF_X1_173 : Cond.fieldLink RX1 173 "TimeBench$Clock" "steps" "I" ∈ TB := tbm1 (i := 66) rfl rfl
theorem TF_X9_223 : Cond.fieldLink RX9 223 "TimeBench$Clock" "steps" "I" ∈ TB := tbm1 (i := 67) rfl rfl
theorem TF_X0_43 : Cond.fieldLink RX0 43 "TimeBench$Clock" "drifts" "I" ∈ TB := tbm1 (i := 68) rfl rfl
theorem TF_X1_150 : Cond.fieldLink RX1 150 "TimeBench$Clock" "drifts" "I" ∈ TB := tbm1 (i := 69) rfl rfl
theorem TF_X9_225 : Cond.fieldLink RX9 225 "TimeBench$Clock" "drifts" "I" ∈ TB := tbm1 (i := 70) rfl rfl
theorem TA_int : Cond.arrayClass .int ∈ TB := tbm1 (i := 96) rfl rfl
theorem TB_X4 : Cond.instantiable RX4 6 ∈ TB := tbm1 (i := 97) rfl rfl
theorem TI_X4_init : Cond.instanceMethod yX4_init ∈ TB := tbm1 (i := 99) rfl rfl
theorem TC_X4_init : Cond.code yX4_init cX4_init 1 none ∈ TB := tbm1 (i := 100) rfl rfl
theorem TM_X4_3 : Cond.methodLink RX4 3 objectInit ∈ TB := tbm1 (i := 101) rfl rfl
theorem TF_X4_9 : Cond.fieldLink RX4 9 "TimeBench$Link" "kind" "I" ∈ TB := tbm1 (i := 102) rfl rfl
theorem TF_X9_129 : Cond.fieldLink RX9 129 "TimeBench$Link" "kind" "I" ∈ TB := tbm1 (i := 103) rfl rfl
theorem TF_X4_15 : Cond.fieldLink RX4 15 "TimeBench$Link" "first" "I" ∈ TB := tbm1 (i := 104) rfl rfl
theorem TF_X8_68 : Cond.fieldLink RX8 68 "TimeBench$Link" "first" "I" ∈ TB := tbm1 (i := 105) rfl rfl
theorem TF_X5_57 : Cond.fieldLink RX5 57 "TimeBench$Link" "first" "I" ∈ TB := tbm1 (i := 106) rfl rfl
theorem TF_X4_18 : Cond.fieldLink RX4 18 "TimeBench$Link" "second" "I" ∈ TB := tbm1 (i := 107) rfl rfl
theorem TF_X5_61 : Cond.fieldLink RX5 61 "TimeBench$Link" "second" "I" ∈ TB := tbm1 (i := 108) rfl rfl
theorem TF_X4_21 : Cond.fieldLink RX4 21 "TimeBench$Link" "way" "I" ∈ TB := tbm1 (i := 109) rfl rfl
theorem TF_X9_139 : Cond.fieldLink RX9 139 "TimeBench$Link" "way" "I" ∈ TB := tbm1 (i := 110) rfl rfl
theorem TF_X4_24 : Cond.fieldLink RX4 24 "TimeBench$Link" "there" "[I" ∈ TB := tbm1 (i := 111) rfl rfl
theorem TF_X4_28 : Cond.fieldLink RX4 28 "TimeBench$Link" "back" "[I" ∈ TB := tbm1 (i := 112) rfl rfl
theorem TF_X5_9 : Cond.fieldLink RX5 9 "TimeBench$Shelf" "kinds" "[I" ∈ TB := tbm1 (i := 126) rfl rfl
theorem TF_X5_17 : Cond.fieldLink RX5 17 "TimeBench$Shelf" "clocks" "[LTimeBench$Clock;" ∈ TB := tbm1 (i := 127) rfl rfl
theorem TF_X5_23 : Cond.fieldLink RX5 23 "TimeBench$Shelf" "links" "[LTimeBench$Link;" ∈ TB := tbm1 (i := 128) rfl rfl
theorem TL_X9_16 : Cond.classLink RX9 16 RX7 ∈ TB := tbm1 (i := 136) rfl rfl
theorem TB_X7 : Cond.instantiable RX7 2 ∈ TB := tbm1 (i := 137) rfl rfl
theorem TM_X9_18 : Cond.methodLink RX9 18 yX7_init ∈ TB := tbm1 (i := 138) rfl rfl
theorem TI_X7_init : Cond.instanceMethod yX7_init ∈ TB := tbm1 (i := 139) rfl rfl
theorem TC_X7_init : Cond.code yX7_init cX7_init 2 none ∈ TB := tbm1 (i := 140) rfl rfl
theorem TM_X7_3 : Cond.methodLink RX7 3 objectInit ∈ TB := tbm1 (i := 141) rfl rfl
theorem TL_X7_9 : Cond.classLink RX7 9 "[[I" ∈ TB := tbm1 (i := 142) rfl rfl
theorem TK_X7_19 : Cond.constant RX7 19 (2000000000) ∈ TB := tbm1 (i := 144) rfl rfl
theorem TM_X7_20 : Cond.methodLink RX7 20 yJ7_fill_53178 ∈ TB := tbm1 (i := 145) rfl rfl
theorem TT_J7_fill_53178 : Cond.static yJ7_fill_53178 ∈ TB := tbm1 (i := 146) rfl rfl
theorem TC_J7_fill_53178 : Cond.code yJ7_fill_53178 cJ7_fill_53178 4 none ∈ TB := tbm1 (i := 147) rfl rfl
theorem TF_X7_11 : Cond.fieldLink RX7 11 "TimeBench$Told" "clockRows" "[[I" ∈ TB := tbm1 (i := 148) rfl rfl
theorem TF_X7_16 : Cond.fieldLink RX7 16 "TimeBench$Told" "paperRows" "[[I" ∈ TB := tbm1 (i := 149) rfl rfl
theorem TL_X9_23 : Cond.classLink RX9 23 RX6 ∈ TB := tbm1 (i := 155) rfl rfl
theorem TB_X6 : Cond.instantiable RX6 4 ∈ TB := tbm1 (i := 156) rfl rfl
theorem TI_X6_init : Cond.instanceMethod yX6_init ∈ TB := tbm1 (i := 158) rfl rfl
theorem TC_X6_init : Cond.code yX6_init cX6_init 1 none ∈ TB := tbm1 (i := 159) rfl rfl
theorem TM_X6_3 : Cond.methodLink RX6 3 objectInit ∈ TB := tbm1 (i := 160) rfl rfl
theorem TF_X6_9 : Cond.fieldLink RX6 9 "TimeBench$Steps" "hours" "[I" ∈ TB := tbm1 (i := 161) rfl rfl
theorem TF_X6_15 : Cond.fieldLink RX6 15 "TimeBench$Steps" "places" "[I" ∈ TB := tbm1 (i := 162) rfl rfl
theorem TF_X6_18 : Cond.fieldLink RX6 18 "TimeBench$Steps" "misses" "[I" ∈ TB := tbm1 (i := 163) rfl rfl
theorem TF_X6_21 : Cond.fieldLink RX6 21 "TimeBench$Steps" "count" "I" ∈ TB := tbm1 (i := 164) rfl rfl
theorem TL_X9_30 : Cond.classLink RX9 30 RX8 ∈ TB := tbm1 (i := 174) rfl rfl
theorem TB_X8 : Cond.instantiable RX8 7 ∈ TB := tbm1 (i := 175) rfl rfl
theorem TM_X9_32 : Cond.methodLink RX9 32 yX8_init ∈ TB := tbm1 (i := 176) rfl rfl
theorem TI_X8_init : Cond.instanceMethod yX8_init ∈ TB := tbm1 (i := 177) rfl rfl
theorem TC_X8_init : Cond.code yX8_init cX8_init 2 none ∈ TB := tbm1 (i := 178) rfl rfl
theorem TM_X8_3 : Cond.methodLink RX8 3 objectInit ∈ TB := tbm1 (i := 179) rfl rfl
theorem TF_X8_31 : Cond.fieldLink RX8 31 "TimeBench$Ways" "shelf" "LTimeBench$Shelf;" ∈ TB := tbm1 (i := 180) rfl rfl
theorem TF_X8_9 : Cond.fieldLink RX8 9 "TimeBench$Ways" "queue" "[I" ∈ TB := tbm1 (i := 181) rfl rfl
theorem TF_X8_15 : Cond.fieldLink RX8 15 "TimeBench$Ways" "lengths" "[I" ∈ TB := tbm1 (i := 182) rfl rfl
theorem TF_X8_18 : Cond.fieldLink RX8 18 "TimeBench$Ways" "sums" "[I" ∈ TB := tbm1 (i := 183) rfl rfl
theorem TF_X8_21 : Cond.fieldLink RX8 21 "TimeBench$Ways" "lastLinks" "[I" ∈ TB := tbm1 (i := 184) rfl rfl
theorem TF_X8_24 : Cond.fieldLink RX8 24 "TimeBench$Ways" "ahead" "[I" ∈ TB := tbm1 (i := 185) rfl rfl
theorem TF_X8_27 : Cond.fieldLink RX8 27 "TimeBench$Ways" "queued" "I" ∈ TB := tbm1 (i := 186) rfl rfl
theorem TL_X9_39 : Cond.classLink RX9 39 RX2 ∈ TB := tbm1 (i := 202) rfl rfl
theorem TB_X2 : Cond.instantiable RX2 7 ∈ TB := tbm1 (i := 203) rfl rfl
theorem TM_X9_41 : Cond.methodLink RX9 41 yX2_init ∈ TB := tbm1 (i := 204) rfl rfl
theorem TI_X2_init : Cond.instanceMethod yX2_init ∈ TB := tbm1 (i := 205) rfl rfl
theorem TC_X2_init : Cond.code yX2_init cX2_init 2 none ∈ TB := tbm1 (i := 206) rfl rfl
theorem TM_X2_3 : Cond.methodLink RX2 3 objectInit ∈ TB := tbm1 (i := 207) rfl rfl
theorem TL_X2_9 : Cond.classLink RX2 9 RX3 ∈ TB := tbm1 (i := 208) rfl rfl
theorem TB_X3 : Cond.instantiable RX3 5 ∈ TB := tbm1 (i := 209) rfl rfl
theorem TI_X3_init : Cond.instanceMethod yX3_init ∈ TB := tbm1 (i := 211) rfl rfl
theorem TC_X3_init : Cond.code yX3_init cX3_init 1 none ∈ TB := tbm1 (i := 212) rfl rfl
theorem TM_X3_1 : Cond.methodLink RX3 1 objectInit ∈ TB := tbm1 (i := 213) rfl rfl
theorem TF_X3_7 : Cond.fieldLink RX3 7 "TimeBench$Line" "count" "I" ∈ TB := tbm1 (i := 214) rfl rfl
theorem TF_X3_13 : Cond.fieldLink RX3 13 "TimeBench$Line" "sumT" "J" ∈ TB := tbm1 (i := 215) rfl rfl
theorem TF_X3_17 : Cond.fieldLink RX3 17 "TimeBench$Line" "sumV" "J" ∈ TB := tbm1 (i := 216) rfl rfl
theorem TF_X3_20 : Cond.fieldLink RX3 20 "TimeBench$Line" "sumTT" "J" ∈ TB := tbm1 (i := 217) rfl rfl
theorem TF_X3_23 : Cond.fieldLink RX3 23 "TimeBench$Line" "sumTV" "J" ∈ TB := tbm1 (i := 218) rfl rfl
theorem TF_X2_35 : Cond.fieldLink RX2 35 "TimeBench$Foretelling" "told" "LTimeBench$Told;" ∈ TB := tbm1 (i := 230) rfl rfl
theorem TF_X2_12 : Cond.fieldLink RX2 12 "TimeBench$Foretelling" "xs" "LTimeBench$Line;" ∈ TB := tbm1 (i := 231) rfl rfl
theorem TF_X2_18 : Cond.fieldLink RX2 18 "TimeBench$Foretelling" "gains" "LTimeBench$Line;" ∈ TB := tbm1 (i := 232) rfl rfl
theorem TF_X2_21 : Cond.fieldLink RX2 21 "TimeBench$Foretelling" "base" "J" ∈ TB := tbm1 (i := 233) rfl rfl
theorem TF_X2_25 : Cond.fieldLink RX2 25 "TimeBench$Foretelling" "missedCount" "I" ∈ TB := tbm1 (i := 234) rfl rfl
theorem TF_X2_29 : Cond.fieldLink RX2 29 "TimeBench$Foretelling" "missedAmounts" "J" ∈ TB := tbm1 (i := 235) rfl rfl
theorem TF_X2_32 : Cond.fieldLink RX2 32 "TimeBench$Foretelling" "missedSquares" "J" ∈ TB := tbm1 (i := 236) rfl rfl
theorem TL_X9_48 : Cond.classLink RX9 48 RX1 ∈ TB := tbm2 (i := 12) rfl rfl
theorem TB_X1 : Cond.instantiable RX1 7 ∈ TB := tbm2 (i := 13) rfl rfl
theorem TM_X9_50 : Cond.methodLink RX9 50 yX1_init ∈ TB := tbm2 (i := 14) rfl rfl
theorem TI_X1_init : Cond.instanceMethod yX1_init ∈ TB := tbm2 (i := 15) rfl rfl
theorem TC_X1_init : Cond.code yX1_init cX1_init 6 none ∈ TB := tbm2 (i := 16) rfl rfl
theorem TM_X1_3 : Cond.methodLink RX1 3 objectInit ∈ TB := tbm2 (i := 17) rfl rfl
theorem TF_X1_19 : Cond.fieldLink RX1 19 "TimeBench$Closing" "shelf" "LTimeBench$Shelf;" ∈ TB := tbm2 (i := 18) rfl rfl
theorem TF_X1_23 : Cond.fieldLink RX1 23 "TimeBench$Closing" "ways" "LTimeBench$Ways;" ∈ TB := tbm2 (i := 19) rfl rfl
theorem TF_X1_27 : Cond.fieldLink RX1 27 "TimeBench$Closing" "told" "LTimeBench$Told;" ∈ TB := tbm2 (i := 20) rfl rfl
theorem TF_X1_31 : Cond.fieldLink RX1 31 "TimeBench$Closing" "foretelling" "LTimeBench$Foretelling;" ∈ TB := tbm2 (i := 21) rfl rfl
theorem TF_X1_35 : Cond.fieldLink RX1 35 "TimeBench$Closing" "steps" "LTimeBench$Steps;" ∈ TB := tbm2 (i := 22) rfl rfl
theorem TF_X1_9 : Cond.fieldLink RX1 9 "TimeBench$Closing" "fullWeights" "[I" ∈ TB := tbm2 (i := 23) rfl rfl
theorem TF_X1_15 : Cond.fieldLink RX1 15 "TimeBench$Closing" "present" "I" ∈ TB := tbm2 (i := 24) rfl rfl
theorem TF_X9_10 : Cond.fieldLink RX9 10 "TimeBench" "shelf" "LTimeBench$Shelf;" ∈ TB := tbm2 (i := 40) rfl rfl
theorem TF_X9_19 : Cond.fieldLink RX9 19 "TimeBench" "told" "LTimeBench$Told;" ∈ TB := tbm2 (i := 41) rfl rfl
theorem TF_X9_26 : Cond.fieldLink RX9 26 "TimeBench" "steps" "LTimeBench$Steps;" ∈ TB := tbm2 (i := 42) rfl rfl
theorem TF_X9_35 : Cond.fieldLink RX9 35 "TimeBench" "ways" "LTimeBench$Ways;" ∈ TB := tbm2 (i := 43) rfl rfl
theorem TF_X9_44 : Cond.fieldLink RX9 44 "TimeBench" "foretelling" "LTimeBench$Foretelling;" ∈ TB := tbm2 (i := 44) rfl rfl
theorem TF_X9_53 : Cond.fieldLink RX9 53 "TimeBench" "closing" "LTimeBench$Closing;" ∈ TB := tbm2 (i := 45) rfl rfl
theorem TF_X9_57 : Cond.fieldLink RX9 57 "TimeBench" "wayTold" "[I" ∈ TB := tbm2 (i := 46) rfl rfl
theorem TF_X9_61 : Cond.fieldLink RX9 61 "TimeBench" "wayLength" "I" ∈ TB := tbm2 (i := 47) rfl rfl
theorem TF_X9_65 : Cond.fieldLink RX9 65 "TimeBench" "now" "I" ∈ TB := tbm2 (i := 48) rfl rfl
theorem TF_X9_68 : Cond.fieldLink RX9 68 "TimeBench" "part" "I" ∈ TB := tbm2 (i := 49) rfl rfl
theorem TF_X9_71 : Cond.fieldLink RX9 71 "TimeBench" "times" "I" ∈ TB := tbm2 (i := 50) rfl rfl
theorem TF_X9_74 : Cond.fieldLink RX9 74 "TimeBench" "pace" "I" ∈ TB := tbm2 (i := 51) rfl rfl
theorem TF_X9_77 : Cond.fieldLink RX9 77 "TimeBench" "scaleOff" "I" ∈ TB := tbm2 (i := 52) rfl rfl
theorem TM_L_13 : Cond.methodLink RL 13 yX9_put ∈ TB := tbm2 (i := 80) rfl rfl
theorem TI_X9_put : Cond.instanceMethod yX9_put ∈ TB := tbm2 (i := 81) rfl rfl
theorem TS_X9_put : Cond.selects RX9 yX9_put yX9_put ∈ TB := tbm2 (i := 82) rfl rfl
theorem TC_X9_put : Cond.code yX9_put cX9_put 6 (some .int) ∈ TB := tbm2 (i := 83) rfl rfl
theorem TM_X9_80 : Cond.methodLink RX9 80 yX9_isPlace ∈ TB := tbm2 (i := 84) rfl rfl
theorem TT_X9_isPlace : Cond.static yX9_isPlace ∈ TB := tbm2 (i := 85) rfl rfl
theorem TC_X9_isPlace : Cond.code yX9_isPlace cX9_isPlace 1 (some .boolean) ∈ TB := tbm2 (i := 86) rfl rfl
theorem TM_X9_84 : Cond.methodLink RX9 84 yX5_kindAt ∈ TB := tbm2 (i := 87) rfl rfl
theorem TI_X5_kindAt : Cond.instanceMethod yX5_kindAt ∈ TB := tbm2 (i := 88) rfl rfl
theorem TS_X5_kindAt : Cond.selects RX5 yX5_kindAt yX5_kindAt ∈ TB := tbm2 (i := 89) rfl rfl
theorem TC_X5_kindAt : Cond.code yX5_kindAt cX5_kindAt 2 (some .int) ∈ TB := tbm2 (i := 90) rfl rfl
theorem TM_X9_88 : Cond.methodLink RX9 88 yX9_isClockKind ∈ TB := tbm2 (i := 91) rfl rfl
theorem TT_X9_isClockKind : Cond.static yX9_isClockKind ∈ TB := tbm2 (i := 92) rfl rfl
theorem TC_X9_isClockKind : Cond.code yX9_isClockKind cX9_isClockKind 1 (some .boolean) ∈ TB := tbm2 (i := 93) rfl rfl
theorem TM_X9_91 : Cond.methodLink RX9 91 yX5_layClock ∈ TB := tbm2 (i := 94) rfl rfl
theorem TI_X5_layClock : Cond.instanceMethod yX5_layClock ∈ TB := tbm2 (i := 95) rfl rfl
theorem TS_X5_layClock : Cond.selects RX5 yX5_layClock yX5_layClock ∈ TB := tbm2 (i := 96) rfl rfl
theorem TC_X5_layClock : Cond.code yX5_layClock cX5_layClock 6 (some .boolean) ∈ TB := tbm2 (i := 97) rfl rfl
theorem TM_X5_42 : Cond.methodLink RX5 42 yX0_lay ∈ TB := tbm2 (i := 98) rfl rfl
theorem TI_X0_lay : Cond.instanceMethod yX0_lay ∈ TB := tbm2 (i := 99) rfl rfl
theorem TS_X0_lay : Cond.selects RX0 yX0_lay yX0_lay ∈ TB := tbm2 (i := 100) rfl rfl
theorem TC_X0_lay : Cond.code yX0_lay cX0_lay 5 none ∈ TB := tbm2 (i := 101) rfl rfl
theorem TM_X0_49 : Cond.methodLink RX0 49 yX0_beginAnew ∈ TB := tbm2 (i := 102) rfl rfl
theorem TI_X0_beginAnew : Cond.instanceMethod yX0_beginAnew ∈ TB := tbm2 (i := 103) rfl rfl
theorem TS_X0_beginAnew : Cond.selects RX0 yX0_beginAnew yX0_beginAnew ∈ TB := tbm2 (i := 104) rfl rfl
theorem TC_X0_beginAnew : Cond.code yX0_beginAnew cX0_beginAnew 2 none ∈ TB := tbm2 (i := 105) rfl rfl
theorem TM_X9_95 : Cond.methodLink RX9 95 yX9_isLinkKind ∈ TB := tbm2 (i := 106) rfl rfl
theorem TT_X9_isLinkKind : Cond.static yX9_isLinkKind ∈ TB := tbm2 (i := 107) rfl rfl
theorem TC_X9_isLinkKind : Cond.code yX9_isLinkKind cX9_isLinkKind 1 (some .boolean) ∈ TB := tbm2 (i := 108) rfl rfl
theorem TM_X9_98 : Cond.methodLink RX9 98 yX5_layLink ∈ TB := tbm2 (i := 109) rfl rfl
theorem TI_X5_layLink : Cond.instanceMethod yX5_layLink ∈ TB := tbm2 (i := 110) rfl rfl
theorem TS_X5_layLink : Cond.selects RX5 yX5_layLink yX5_layLink ∈ TB := tbm2 (i := 111) rfl rfl
theorem TC_X5_layLink : Cond.code yX5_layLink cX5_layLink 5 (some .boolean) ∈ TB := tbm2 (i := 112) rfl rfl
theorem TM_X5_46 : Cond.methodLink RX5 46 yX5_clockAt ∈ TB := tbm2 (i := 113) rfl rfl
theorem TI_X5_clockAt : Cond.instanceMethod yX5_clockAt ∈ TB := tbm2 (i := 114) rfl rfl
theorem TS_X5_clockAt : Cond.selects RX5 yX5_clockAt yX5_clockAt ∈ TB := tbm2 (i := 115) rfl rfl
theorem TC_X5_clockAt : Cond.code yX5_clockAt cX5_clockAt 2 (some (.object "TimeBench$Clock")) ∈ TB := tbm2 (i := 116) rfl rfl
theorem TM_X5_31 : Cond.methodLink RX5 31 yX5_kindAt ∈ TB := tbm2 (i := 117) rfl rfl
theorem TM_X5_50 : Cond.methodLink RX5 50 yX4_lay ∈ TB := tbm2 (i := 119) rfl rfl
theorem TI_X4_lay : Cond.instanceMethod yX4_lay ∈ TB := tbm2 (i := 120) rfl rfl
theorem TS_X4_lay : Cond.selects RX4 yX4_lay yX4_lay ∈ TB := tbm2 (i := 121) rfl rfl
theorem TC_X4_lay : Cond.code yX4_lay cX4_lay 4 none ∈ TB := tbm2 (i := 122) rfl rfl
theorem TM_X4_31 : Cond.methodLink RX4 31 yX4_dropReadings ∈ TB := tbm2 (i := 123) rfl rfl
theorem TI_X4_dropReadings : Cond.instanceMethod yX4_dropReadings ∈ TB := tbm2 (i := 124) rfl rfl
theorem TS_X4_dropReadings : Cond.selects RX4 yX4_dropReadings yX4_dropReadings ∈ TB := tbm2 (i := 125) rfl rfl
theorem TC_X4_dropReadings : Cond.code yX4_dropReadings cX4_dropReadings 3 (some .int) ∈ TB := tbm2 (i := 126) rfl rfl
theorem TK_X4_35 : Cond.constant RX4 35 (1000000) ∈ TB := tbm2 (i := 127) rfl rfl
theorem TM_X9_102 : Cond.methodLink RX9 102 yX5_layLamp ∈ TB := tbm2 (i := 128) rfl rfl
theorem TI_X5_layLamp : Cond.instanceMethod yX5_layLamp ∈ TB := tbm2 (i := 129) rfl rfl
theorem TS_X5_layLamp : Cond.selects RX5 yX5_layLamp yX5_layLamp ∈ TB := tbm2 (i := 130) rfl rfl
theorem TC_X5_layLamp : Cond.code yX5_layLamp cX5_layLamp 2 (some .boolean) ∈ TB := tbm2 (i := 131) rfl rfl
theorem TM_L_18 : Cond.methodLink RL 18 yX9_lift ∈ TB := tbm2 (i := 132) rfl rfl
theorem TI_X9_lift : Cond.instanceMethod yX9_lift ∈ TB := tbm2 (i := 133) rfl rfl
theorem TS_X9_lift : Cond.selects RX9 yX9_lift yX9_lift ∈ TB := tbm2 (i := 134) rfl rfl
theorem TC_X9_lift : Cond.code yX9_lift cX9_lift 3 (some .int) ∈ TB := tbm2 (i := 135) rfl rfl
theorem TM_X9_105 : Cond.methodLink RX9 105 yX5_hasLinkOf ∈ TB := tbm2 (i := 136) rfl rfl
theorem TI_X5_hasLinkOf : Cond.instanceMethod yX5_hasLinkOf ∈ TB := tbm2 (i := 137) rfl rfl
theorem TS_X5_hasLinkOf : Cond.selects RX5 yX5_hasLinkOf yX5_hasLinkOf ∈ TB := tbm2 (i := 138) rfl rfl
theorem TC_X5_hasLinkOf : Cond.code yX5_hasLinkOf cX5_hasLinkOf 4 (some .boolean) ∈ TB := tbm2 (i := 139) rfl rfl
theorem TM_X5_53 : Cond.methodLink RX5 53 yX5_linkAt ∈ TB := tbm2 (i := 140) rfl rfl
theorem TI_X5_linkAt : Cond.instanceMethod yX5_linkAt ∈ TB := tbm2 (i := 141) rfl rfl
theorem TS_X5_linkAt : Cond.selects RX5 yX5_linkAt yX5_linkAt ∈ TB := tbm2 (i := 142) rfl rfl
theorem TC_X5_linkAt : Cond.code yX5_linkAt cX5_linkAt 2 (some (.object "TimeBench$Link")) ∈ TB := tbm2 (i := 143) rfl rfl
theorem TM_X9_108 : Cond.methodLink RX9 108 yX5_empty ∈ TB := tbm2 (i := 145) rfl rfl
theorem TI_X5_empty : Cond.instanceMethod yX5_empty ∈ TB := tbm2 (i := 146) rfl rfl
theorem TS_X5_empty : Cond.selects RX5 yX5_empty yX5_empty ∈ TB := tbm2 (i := 147) rfl rfl
theorem TC_X5_empty : Cond.code yX5_empty cX5_empty 2 none ∈ TB := tbm2 (i := 148) rfl rfl
theorem TM_L_23 : Cond.methodLink RL 23 yX9_kind ∈ TB := tbm2 (i := 149) rfl rfl
theorem TI_X9_kind : Cond.instanceMethod yX9_kind ∈ TB := tbm2 (i := 150) rfl rfl
theorem TS_X9_kind : Cond.selects RX9 yX9_kind yX9_kind ∈ TB := tbm2 (i := 151) rfl rfl
theorem TC_X9_kind : Cond.code yX9_kind cX9_kind 2 (some .int) ∈ TB := tbm2 (i := 152) rfl rfl
theorem TM_L_27 : Cond.methodLink RL 27 yX9_read ∈ TB := tbm2 (i := 153) rfl rfl
theorem TI_X9_read : Cond.instanceMethod yX9_read ∈ TB := tbm2 (i := 154) rfl rfl
theorem TS_X9_read : Cond.selects RX9 yX9_read yX9_read ∈ TB := tbm2 (i := 155) rfl rfl
theorem TC_X9_read : Cond.code yX9_read cX9_read 4 (some .int) ∈ TB := tbm2 (i := 156) rfl rfl
theorem TM_X9_112 : Cond.methodLink RX9 112 yX5_linkAt ∈ TB := tbm2 (i := 157) rfl rfl
theorem TM_X9_116 : Cond.methodLink RX9 116 yX9_refusalAt ∈ TB := tbm2 (i := 158) rfl rfl
theorem TI_X9_refusalAt : Cond.instanceMethod yX9_refusalAt ∈ TB := tbm2 (i := 160) rfl rfl
theorem TC_X9_refusalAt : Cond.code yX9_refusalAt cX9_refusalAt 2 (some .int) ∈ TB := tbm2 (i := 161) rfl rfl
theorem TM_X9_119 : Cond.methodLink RX9 119 yX9_isWithin ∈ TB := tbm2 (i := 162) rfl rfl
theorem TT_X9_isWithin : Cond.static yX9_isWithin ∈ TB := tbm2 (i := 163) rfl rfl
theorem TC_X9_isWithin : Cond.code yX9_isWithin cX9_isWithin 2 (some .boolean) ∈ TB := tbm2 (i := 164) rfl rfl
theorem TM_X9_123 : Cond.methodLink RX9 123 yX4_readThere ∈ TB := tbm2 (i := 165) rfl rfl
theorem TI_X4_readThere : Cond.instanceMethod yX4_readThere ∈ TB := tbm2 (i := 166) rfl rfl
theorem TS_X4_readThere : Cond.selects RX4 yX4_readThere yX4_readThere ∈ TB := tbm2 (i := 167) rfl rfl
theorem TC_X4_readThere : Cond.code yX4_readThere cX4_readThere 3 none ∈ TB := tbm2 (i := 168) rfl rfl
theorem TM_L_32 : Cond.methodLink RL 32 yX9_back ∈ TB := tbm2 (i := 169) rfl rfl
theorem TI_X9_back : Cond.instanceMethod yX9_back ∈ TB := tbm2 (i := 170) rfl rfl
theorem TS_X9_back : Cond.selects RX9 yX9_back yX9_back ∈ TB := tbm2 (i := 171) rfl rfl
theorem TC_X9_back : Cond.code yX9_back cX9_back 4 (some .int) ∈ TB := tbm2 (i := 172) rfl rfl
theorem TM_X9_132 : Cond.methodLink RX9 132 yX4_readBack ∈ TB := tbm2 (i := 173) rfl rfl
theorem TI_X4_readBack : Cond.instanceMethod yX4_readBack ∈ TB := tbm2 (i := 174) rfl rfl
theorem TS_X4_readBack : Cond.selects RX4 yX4_readBack yX4_readBack ∈ TB := tbm2 (i := 175) rfl rfl
theorem TC_X4_readBack : Cond.code yX4_readBack cX4_readBack 3 none ∈ TB := tbm2 (i := 176) rfl rfl
theorem TM_L_36 : Cond.methodLink RL 36 yX9_tear ∈ TB := tbm2 (i := 177) rfl rfl
theorem TI_X9_tear : Cond.instanceMethod yX9_tear ∈ TB := tbm2 (i := 178) rfl rfl
theorem TS_X9_tear : Cond.selects RX9 yX9_tear yX9_tear ∈ TB := tbm2 (i := 179) rfl rfl
theorem TC_X9_tear : Cond.code yX9_tear cX9_tear 3 (some .int) ∈ TB := tbm2 (i := 180) rfl rfl
theorem TM_X9_135 : Cond.methodLink RX9 135 yX4_dropReadings ∈ TB := tbm2 (i := 181) rfl rfl
theorem TM_L_40 : Cond.methodLink RL 40 yX9_way ∈ TB := tbm2 (i := 182) rfl rfl
theorem TI_X9_way : Cond.instanceMethod yX9_way ∈ TB := tbm2 (i := 183) rfl rfl
theorem TS_X9_way : Cond.selects RX9 yX9_way yX9_way ∈ TB := tbm2 (i := 184) rfl rfl
theorem TC_X9_way : Cond.code yX9_way cX9_way 4 (some .int) ∈ TB := tbm2 (i := 185) rfl rfl
theorem TM_L_44 : Cond.methodLink RL 44 yX9_tells ∈ TB := tbm2 (i := 186) rfl rfl
theorem TI_X9_tells : Cond.instanceMethod yX9_tells ∈ TB := tbm2 (i := 187) rfl rfl
theorem TS_X9_tells : Cond.selects RX9 yX9_tells yX9_tells ∈ TB := tbm2 (i := 188) rfl rfl
theorem TC_X9_tells : Cond.code yX9_tells cX9_tells 4 (some .int) ∈ TB := tbm2 (i := 189) rfl rfl
theorem TM_X9_142 : Cond.methodLink RX9 142 yX9_hasCome ∈ TB := tbm2 (i := 190) rfl rfl
theorem TI_X9_hasCome : Cond.instanceMethod yX9_hasCome ∈ TB := tbm2 (i := 192) rfl rfl
theorem TC_X9_hasCome : Cond.code yX9_hasCome cX9_hasCome 2 (some .boolean) ∈ TB := tbm2 (i := 193) rfl rfl
theorem TM_X9_145 : Cond.methodLink RX9 145 yX4_toldAt ∈ TB := tbm2 (i := 194) rfl rfl
theorem TI_X4_toldAt : Cond.instanceMethod yX4_toldAt ∈ TB := tbm2 (i := 195) rfl rfl
theorem TS_X4_toldAt : Cond.selects RX4 yX4_toldAt yX4_toldAt ∈ TB := tbm2 (i := 196) rfl rfl
theorem TC_X4_toldAt : Cond.code yX4_toldAt cX4_toldAt 2 (some .int) ∈ TB := tbm2 (i := 197) rfl rfl
theorem TK_X9_148 : Cond.constant RX9 148 (1000000) ∈ TB := tbm2 (i := 198) rfl rfl
theorem TM_L_48 : Cond.methodLink RL 48 yX9_difference ∈ TB := tbm2 (i := 199) rfl rfl
theorem TI_X9_difference : Cond.instanceMethod yX9_difference ∈ TB := tbm2 (i := 200) rfl rfl
theorem TS_X9_difference : Cond.selects RX9 yX9_difference yX9_difference ∈ TB := tbm2 (i := 201) rfl rfl
theorem TC_X9_difference : Cond.code yX9_difference cX9_difference 6 (some .int) ∈ TB := tbm2 (i := 202) rfl rfl
theorem TM_X9_149 : Cond.methodLink RX9 149 yX9_refusalOfClocks ∈ TB := tbm2 (i := 203) rfl rfl
theorem TI_X9_refusalOfClocks : Cond.instanceMethod yX9_refusalOfClocks ∈ TB := tbm2 (i := 205) rfl rfl
theorem TC_X9_refusalOfClocks : Cond.code yX9_refusalOfClocks cX9_refusalOfClocks 3 (some .int) ∈ TB := tbm2 (i := 206) rfl rfl
theorem TM_X9_169 : Cond.methodLink RX9 169 yX5_clockAt ∈ TB := tbm2 (i := 207) rfl rfl
theorem TM_X9_153 : Cond.methodLink RX9 153 yX9_findWay ∈ TB := tbm2 (i := 208) rfl rfl
theorem TI_X9_findWay : Cond.instanceMethod yX9_findWay ∈ TB := tbm2 (i := 210) rfl rfl
theorem TC_X9_findWay : Cond.code yX9_findWay cX9_findWay 4 (some .int) ∈ TB := tbm2 (i := 211) rfl rfl
theorem TM_X9_269 : Cond.methodLink RX9 269 yJ9_min_7cf53 ∈ TB := tbm2 (i := 212) rfl rfl
theorem TT_J9_min_7cf53 : Cond.static yJ9_min_7cf53 ∈ TB := tbm2 (i := 213) rfl rfl
theorem TC_J9_min_7cf53 : Cond.code yJ9_min_7cf53 cJ9_min_7cf53 2 (some .int) ∈ TB := tbm2 (i := 214) rfl rfl
theorem TM_X9_272 : Cond.methodLink RX9 272 yX8_spread ∈ TB := tbm2 (i := 215) rfl rfl
theorem TI_X8_spread : Cond.instanceMethod yX8_spread ∈ TB := tbm2 (i := 216) rfl rfl
theorem TS_X8_spread : Cond.selects RX8 yX8_spread yX8_spread ∈ TB := tbm2 (i := 217) rfl rfl
theorem TC_X8_spread : Cond.code yX8_spread cX8_spread 4 none ∈ TB := tbm2 (i := 218) rfl rfl
theorem TM_X8_35 : Cond.methodLink RX8 35 yJ7_fill_53178 ∈ TB := tbm2 (i := 219) rfl rfl
theorem TM_X8_41 : Cond.methodLink RX8 41 yX8_reach ∈ TB := tbm2 (i := 220) rfl rfl
theorem TI_X8_reach : Cond.instanceMethod yX8_reach ∈ TB := tbm2 (i := 222) rfl rfl
theorem TC_X8_reach : Cond.code yX8_reach cX8_reach 6 none ∈ TB := tbm2 (i := 223) rfl rfl
theorem TM_X8_45 : Cond.methodLink RX8 45 yX8_spreadOn ∈ TB := tbm2 (i := 224) rfl rfl
theorem TI_X8_spreadOn : Cond.instanceMethod yX8_spreadOn ∈ TB := tbm2 (i := 226) rfl rfl
theorem TC_X8_spreadOn : Cond.code yX8_spreadOn cX8_spreadOn 8 none ∈ TB := tbm2 (i := 227) rfl rfl
theorem TM_X8_49 : Cond.methodLink RX8 49 yX5_linkAt ∈ TB := tbm2 (i := 228) rfl rfl
theorem TM_X8_55 : Cond.methodLink RX8 55 yX4_otherEndFrom ∈ TB := tbm2 (i := 229) rfl rfl
theorem TI_X4_otherEndFrom : Cond.instanceMethod yX4_otherEndFrom ∈ TB := tbm2 (i := 230) rfl rfl
theorem TS_X4_otherEndFrom : Cond.selects RX4 yX4_otherEndFrom yX4_otherEndFrom ∈ TB := tbm2 (i := 231) rfl rfl
theorem TC_X4_otherEndFrom : Cond.code yX4_otherEndFrom cX4_otherEndFrom 2 (some .int) ∈ TB := tbm2 (i := 232) rfl rfl
theorem TM_X8_61 : Cond.methodLink RX8 61 yX4_toldAt ∈ TB := tbm2 (i := 233) rfl rfl
theorem TK_X8_64 : Cond.constant RX8 64 (1000000) ∈ TB := tbm2 (i := 234) rfl rfl
theorem TM_X8_65 : Cond.methodLink RX8 65 yX8_lengthTo ∈ TB := tbm2 (i := 235) rfl rfl
theorem TI_X8_lengthTo : Cond.instanceMethod yX8_lengthTo ∈ TB := tbm2 (i := 236) rfl rfl
theorem TS_X8_lengthTo : Cond.selects RX8 yX8_lengthTo yX8_lengthTo ∈ TB := tbm2 (i := 237) rfl rfl
theorem TC_X8_lengthTo : Cond.code yX8_lengthTo cX8_lengthTo 2 (some .int) ∈ TB := tbm2 (i := 238) rfl rfl
theorem TM_X8_71 : Cond.methodLink RX8 71 yX8_sumTo ∈ TB := tbm2 (i := 239) rfl rfl
theorem TI_X8_sumTo : Cond.instanceMethod yX8_sumTo ∈ TB := tbm3 (i := 0) rfl rfl
theorem TS_X8_sumTo : Cond.selects RX8 yX8_sumTo yX8_sumTo ∈ TB := tbm3 (i := 1) rfl rfl
theorem TC_X8_sumTo : Cond.code yX8_sumTo cX8_sumTo 2 (some .int) ∈ TB := tbm3 (i := 2) rfl rfl
theorem TM_X9_157 : Cond.methodLink RX9 157 yJ9_max_7cf53 ∈ TB := tbm3 (i := 3) rfl rfl
theorem TT_J9_max_7cf53 : Cond.static yJ9_max_7cf53 ∈ TB := tbm3 (i := 4) rfl rfl
theorem TC_J9_max_7cf53 : Cond.code yJ9_max_7cf53 cJ9_max_7cf53 2 (some .int) ∈ TB := tbm3 (i := 5) rfl rfl
theorem TM_X9_275 : Cond.methodLink RX9 275 yX8_lengthTo ∈ TB := tbm3 (i := 6) rfl rfl
theorem TM_X9_162 : Cond.methodLink RX9 162 yX8_sumTo ∈ TB := tbm3 (i := 7) rfl rfl
theorem TM_L_53 : Cond.methodLink RL 53 yX9_along ∈ TB := tbm3 (i := 8) rfl rfl
theorem TI_X9_along : Cond.instanceMethod yX9_along ∈ TB := tbm3 (i := 9) rfl rfl
theorem TS_X9_along : Cond.selects RX9 yX9_along yX9_along ∈ TB := tbm3 (i := 10) rfl rfl
theorem TC_X9_along : Cond.code yX9_along cX9_along 6 (some .int) ∈ TB := tbm3 (i := 11) rfl rfl
theorem TM_X9_165 : Cond.methodLink RX9 165 yX8_writeWay ∈ TB := tbm3 (i := 12) rfl rfl
theorem TI_X8_writeWay : Cond.instanceMethod yX8_writeWay ∈ TB := tbm3 (i := 13) rfl rfl
theorem TS_X8_writeWay : Cond.selects RX8 yX8_writeWay yX8_writeWay ∈ TB := tbm3 (i := 14) rfl rfl
theorem TC_X8_writeWay : Cond.code yX8_writeWay cX8_writeWay 8 none ∈ TB := tbm3 (i := 15) rfl rfl
theorem TM_L_57 : Cond.methodLink RL 57 yX9_link ∈ TB := tbm3 (i := 16) rfl rfl
theorem TI_X9_link : Cond.instanceMethod yX9_link ∈ TB := tbm3 (i := 17) rfl rfl
theorem TS_X9_link : Cond.selects RX9 yX9_link yX9_link ∈ TB := tbm3 (i := 18) rfl rfl
theorem TC_X9_link : Cond.code yX9_link cX9_link 2 (some .int) ∈ TB := tbm3 (i := 19) rfl rfl
theorem TM_L_61 : Cond.methodLink RL 61 yX9_take ∈ TB := tbm3 (i := 20) rfl rfl
theorem TI_X9_take : Cond.instanceMethod yX9_take ∈ TB := tbm3 (i := 21) rfl rfl
theorem TS_X9_take : Cond.selects RX9 yX9_take yX9_take ∈ TB := tbm3 (i := 22) rfl rfl
theorem TC_X9_take : Cond.code yX9_take cX9_take 3 (some .int) ∈ TB := tbm3 (i := 23) rfl rfl
theorem TM_X9_173 : Cond.methodLink RX9 173 yX0_beginAnew ∈ TB := tbm3 (i := 24) rfl rfl
theorem TM_L_65 : Cond.methodLink RL 65 yX9_leave ∈ TB := tbm3 (i := 25) rfl rfl
theorem TI_X9_leave : Cond.instanceMethod yX9_leave ∈ TB := tbm3 (i := 26) rfl rfl
theorem TS_X9_leave : Cond.selects RX9 yX9_leave yX9_leave ∈ TB := tbm3 (i := 27) rfl rfl
theorem TC_X9_leave : Cond.code yX9_leave cX9_leave 4 (some .int) ∈ TB := tbm3 (i := 28) rfl rfl
theorem TM_L_69 : Cond.methodLink RL 69 yX9_call ∈ TB := tbm3 (i := 29) rfl rfl
theorem TI_X9_call : Cond.instanceMethod yX9_call ∈ TB := tbm3 (i := 30) rfl rfl
theorem TS_X9_call : Cond.selects RX9 yX9_call yX9_call ∈ TB := tbm3 (i := 31) rfl rfl
theorem TC_X9_call : Cond.code yX9_call cX9_call 4 (some .int) ∈ TB := tbm3 (i := 32) rfl rfl
theorem TM_L_74 : Cond.methodLink RL 74 yX9_steer ∈ TB := tbm3 (i := 33) rfl rfl
theorem TI_X9_steer : Cond.instanceMethod yX9_steer ∈ TB := tbm3 (i := 34) rfl rfl
theorem TS_X9_steer : Cond.selects RX9 yX9_steer yX9_steer ∈ TB := tbm3 (i := 35) rfl rfl
theorem TC_X9_steer : Cond.code yX9_steer cX9_steer 4 (some .int) ∈ TB := tbm3 (i := 36) rfl rfl
theorem TM_X9_186 : Cond.methodLink RX9 186 yX0_isSteered ∈ TB := tbm3 (i := 37) rfl rfl
theorem TI_X0_isSteered : Cond.instanceMethod yX0_isSteered ∈ TB := tbm3 (i := 38) rfl rfl
theorem TS_X0_isSteered : Cond.selects RX0 yX0_isSteered yX0_isSteered ∈ TB := tbm3 (i := 39) rfl rfl
theorem TC_X0_isSteered : Cond.code yX0_isSteered cX0_isSteered 1 (some .boolean) ∈ TB := tbm3 (i := 40) rfl rfl
theorem TK_X9_193 : Cond.constant RX9 193 (100000) ∈ TB := tbm3 (i := 41) rfl rfl
theorem TM_L_78 : Cond.methodLink RL 78 yX9_set ∈ TB := tbm3 (i := 42) rfl rfl
theorem TI_X9_set : Cond.instanceMethod yX9_set ∈ TB := tbm3 (i := 43) rfl rfl
theorem TS_X9_set : Cond.selects RX9 yX9_set yX9_set ∈ TB := tbm3 (i := 44) rfl rfl
theorem TC_X9_set : Cond.code yX9_set cX9_set 3 (some .boolean) ∈ TB := tbm3 (i := 45) rfl rfl
theorem TM_L_83 : Cond.methodLink RL 83 yX9_close ∈ TB := tbm3 (i := 46) rfl rfl
theorem TI_X9_close : Cond.instanceMethod yX9_close ∈ TB := tbm3 (i := 47) rfl rfl
theorem TS_X9_close : Cond.selects RX9 yX9_close yX9_close ∈ TB := tbm3 (i := 48) rfl rfl
theorem TC_X9_close : Cond.code yX9_close cX9_close 2 (some .int) ∈ TB := tbm3 (i := 49) rfl rfl
theorem TM_X9_194 : Cond.methodLink RX9 194 yX1_closeHour ∈ TB := tbm3 (i := 50) rfl rfl
theorem TI_X1_closeHour : Cond.instanceMethod yX1_closeHour ∈ TB := tbm3 (i := 51) rfl rfl
theorem TS_X1_closeHour : Cond.selects RX1 yX1_closeHour yX1_closeHour ∈ TB := tbm3 (i := 52) rfl rfl
theorem TC_X1_closeHour : Cond.code yX1_closeHour cX1_closeHour 5 (some .int) ∈ TB := tbm3 (i := 53) rfl rfl
theorem TM_X1_39 : Cond.methodLink RX1 39 yX1_leastTaken ∈ TB := tbm3 (i := 54) rfl rfl
theorem TI_X1_leastTaken : Cond.instanceMethod yX1_leastTaken ∈ TB := tbm3 (i := 56) rfl rfl
theorem TC_X1_leastTaken : Cond.code yX1_leastTaken cX1_leastTaken 3 (some (.object "TimeBench$Clock")) ∈ TB := tbm3 (i := 57) rfl rfl
theorem TM_X1_73 : Cond.methodLink RX1 73 yX5_clockAt ∈ TB := tbm3 (i := 58) rfl rfl
theorem TM_X1_79 : Cond.methodLink RX1 79 yX0_isTaken ∈ TB := tbm3 (i := 59) rfl rfl
theorem TI_X0_isTaken : Cond.instanceMethod yX0_isTaken ∈ TB := tbm3 (i := 60) rfl rfl
theorem TS_X0_isTaken : Cond.selects RX0 yX0_isTaken yX0_isTaken ∈ TB := tbm3 (i := 61) rfl rfl
theorem TC_X0_isTaken : Cond.code yX0_isTaken cX0_isTaken 1 (some .boolean) ∈ TB := tbm3 (i := 62) rfl rfl
theorem TM_X1_43 : Cond.methodLink RX1 43 yX1_hold ∈ TB := tbm3 (i := 63) rfl rfl
theorem TI_X1_hold : Cond.instanceMethod yX1_hold ∈ TB := tbm3 (i := 65) rfl rfl
theorem TC_X1_hold : Cond.code yX1_hold cX1_hold 6 none ∈ TB := tbm3 (i := 66) rfl rfl
theorem TM_X1_83 : Cond.methodLink RX1 83 yX8_spread ∈ TB := tbm3 (i := 67) rfl rfl
theorem TM_X1_88 : Cond.methodLink RX1 88 yX8_lengthTo ∈ TB := tbm3 (i := 68) rfl rfl
theorem TM_X1_92 : Cond.methodLink RX1 92 yX2_foretoldOf ∈ TB := tbm3 (i := 69) rfl rfl
theorem TI_X2_foretoldOf : Cond.instanceMethod yX2_foretoldOf ∈ TB := tbm3 (i := 70) rfl rfl
theorem TS_X2_foretoldOf : Cond.selects RX2 yX2_foretoldOf yX2_foretoldOf ∈ TB := tbm3 (i := 71) rfl rfl
theorem TC_X2_foretoldOf : Cond.code yX2_foretoldOf cX2_foretoldOf 4 (some .int) ∈ TB := tbm3 (i := 72) rfl rfl
theorem TM_X2_75 : Cond.methodLink RX2 75 yX2_lineOf ∈ TB := tbm3 (i := 73) rfl rfl
theorem TI_X2_lineOf : Cond.instanceMethod yX2_lineOf ∈ TB := tbm3 (i := 74) rfl rfl
theorem TS_X2_lineOf : Cond.selects RX2 yX2_lineOf yX2_lineOf ∈ TB := tbm3 (i := 75) rfl rfl
theorem TC_X2_lineOf : Cond.code yX2_lineOf cX2_lineOf 6 (some (.object "TimeBench$Line")) ∈ TB := tbm3 (i := 76) rfl rfl
theorem TM_X2_58 : Cond.methodLink RX2 58 yX3_clear ∈ TB := tbm3 (i := 77) rfl rfl
theorem TI_X3_clear : Cond.instanceMethod yX3_clear ∈ TB := tbm3 (i := 78) rfl rfl
theorem TS_X3_clear : Cond.selects RX3 yX3_clear yX3_clear ∈ TB := tbm3 (i := 79) rfl rfl
theorem TC_X3_clear : Cond.code yX3_clear cX3_clear 1 none ∈ TB := tbm3 (i := 80) rfl rfl
theorem TK_X2_44 : Cond.constant RX2 44 (2000000000) ∈ TB := tbm3 (i := 81) rfl rfl
theorem TM_X2_54 : Cond.methodLink RX2 54 yX2_xOf ∈ TB := tbm3 (i := 82) rfl rfl
theorem TI_X2_xOf : Cond.instanceMethod yX2_xOf ∈ TB := tbm3 (i := 83) rfl rfl
theorem TS_X2_xOf : Cond.selects RX2 yX2_xOf yX2_xOf ∈ TB := tbm3 (i := 84) rfl rfl
theorem TC_X2_xOf : Cond.code yX2_xOf cX2_xOf 3 (some .int) ∈ TB := tbm3 (i := 85) rfl rfl
theorem TM_X2_48 : Cond.methodLink RX2 48 yX7_ofClock ∈ TB := tbm3 (i := 86) rfl rfl
theorem TI_X7_ofClock : Cond.instanceMethod yX7_ofClock ∈ TB := tbm3 (i := 87) rfl rfl
theorem TS_X7_ofClock : Cond.selects RX7 yX7_ofClock yX7_ofClock ∈ TB := tbm3 (i := 88) rfl rfl
theorem TC_X7_ofClock : Cond.code yX7_ofClock cX7_ofClock 4 (some .int) ∈ TB := tbm3 (i := 89) rfl rfl
theorem TM_X2_64 : Cond.methodLink RX2 64 yX3_add ∈ TB := tbm3 (i := 90) rfl rfl
theorem TI_X3_add : Cond.instanceMethod yX3_add ∈ TB := tbm3 (i := 91) rfl rfl
theorem TS_X3_add : Cond.selects RX3 yX3_add yX3_add ∈ TB := tbm3 (i := 92) rfl rfl
theorem TC_X3_add : Cond.code yX3_add cX3_add 5 none ∈ TB := tbm3 (i := 93) rfl rfl
theorem TM_X2_71 : Cond.methodLink RX2 71 yX3_count ∈ TB := tbm3 (i := 94) rfl rfl
theorem TI_X3_count : Cond.instanceMethod yX3_count ∈ TB := tbm3 (i := 95) rfl rfl
theorem TS_X3_count : Cond.selects RX3 yX3_count yX3_count ∈ TB := tbm3 (i := 96) rfl rfl
theorem TC_X3_count : Cond.code yX3_count cX3_count 1 (some .int) ∈ TB := tbm3 (i := 97) rfl rfl
theorem TM_X2_79 : Cond.methodLink RX2 79 yX3_valueAtZero ∈ TB := tbm3 (i := 98) rfl rfl
theorem TI_X3_valueAtZero : Cond.instanceMethod yX3_valueAtZero ∈ TB := tbm3 (i := 99) rfl rfl
theorem TS_X3_valueAtZero : Cond.selects RX3 yX3_valueAtZero yX3_valueAtZero ∈ TB := tbm3 (i := 100) rfl rfl
theorem TC_X3_valueAtZero : Cond.code yX3_valueAtZero cX3_valueAtZero 3 (some .long) ∈ TB := tbm3 (i := 101) rfl rfl
theorem TM_X3_26 : Cond.methodLink RX3 26 yX3_rawBelow ∈ TB := tbm3 (i := 102) rfl rfl
theorem TI_X3_rawBelow : Cond.instanceMethod yX3_rawBelow ∈ TB := tbm3 (i := 104) rfl rfl
theorem TC_X3_rawBelow : Cond.code yX3_rawBelow cX3_rawBelow 1 (some .long) ∈ TB := tbm3 (i := 105) rfl rfl
theorem TM_X3_30 : Cond.methodLink RX3 30 yJ9_floorDiv_f86c9 ∈ TB := tbm3 (i := 106) rfl rfl
theorem TT_J9_floorDiv_f86c9 : Cond.static yJ9_floorDiv_f86c9 ∈ TB := tbm3 (i := 107) rfl rfl
theorem TC_J9_floorDiv_f86c9 : Cond.code yJ9_floorDiv_f86c9 cJ9_floorDiv_f86c9 6 (some .long) ∈ TB := tbm3 (i := 108) rfl rfl
theorem TK_X2_83 : Cond.constant RX2 83 (1000000000) ∈ TB := tbm3 (i := 109) rfl rfl
theorem TT_X9_cut : Cond.static yX9_cut ∈ TB := tbm3 (i := 111) rfl rfl
theorem TC_X9_cut : Cond.code yX9_cut cX9_cut 3 (some .int) ∈ TB := tbm3 (i := 112) rfl rfl
theorem TM_X9_278 : Cond.methodLink RX9 278 yJ9_min_f86c9 ∈ TB := tbm3 (i := 113) rfl rfl
theorem TT_J9_min_f86c9 : Cond.static yJ9_min_f86c9 ∈ TB := tbm3 (i := 114) rfl rfl
theorem TC_J9_min_f86c9 : Cond.code yJ9_min_f86c9 cJ9_min_f86c9 4 (some .long) ∈ TB := tbm3 (i := 115) rfl rfl
theorem TM_X9_281 : Cond.methodLink RX9 281 yJ9_max_f86c9 ∈ TB := tbm3 (i := 116) rfl rfl
theorem TT_J9_max_f86c9 : Cond.static yJ9_max_f86c9 ∈ TB := tbm3 (i := 117) rfl rfl
theorem TC_J9_max_f86c9 : Cond.code yJ9_max_f86c9 cJ9_max_f86c9 4 (some .long) ∈ TB := tbm3 (i := 118) rfl rfl
theorem TM_X1_98 : Cond.methodLink RX1 98 yX7_tell ∈ TB := tbm3 (i := 119) rfl rfl
theorem TI_X7_tell : Cond.instanceMethod yX7_tell ∈ TB := tbm3 (i := 120) rfl rfl
theorem TS_X7_tell : Cond.selects RX7 yX7_tell yX7_tell ∈ TB := tbm3 (i := 121) rfl rfl
theorem TC_X7_tell : Cond.code yX7_tell cX7_tell 5 none ∈ TB := tbm3 (i := 122) rfl rfl
theorem TM_X1_102 : Cond.methodLink RX1 102 yX8_sumTo ∈ TB := tbm3 (i := 123) rfl rfl
theorem TM_X1_108 : Cond.methodLink RX1 108 yX2_fullWeightOf ∈ TB := tbm3 (i := 124) rfl rfl
theorem TI_X2_fullWeightOf : Cond.instanceMethod yX2_fullWeightOf ∈ TB := tbm3 (i := 125) rfl rfl
theorem TS_X2_fullWeightOf : Cond.selects RX2 yX2_fullWeightOf yX2_fullWeightOf ∈ TB := tbm3 (i := 126) rfl rfl
theorem TC_X2_fullWeightOf : Cond.code yX2_fullWeightOf cX2_fullWeightOf 6 (some .int) ∈ TB := tbm3 (i := 127) rfl rfl
theorem TM_X2_92 : Cond.methodLink RX2 92 yX2_gatherMissed ∈ TB := tbm3 (i := 128) rfl rfl
theorem TI_X2_gatherMissed : Cond.instanceMethod yX2_gatherMissed ∈ TB := tbm3 (i := 130) rfl rfl
theorem TC_X2_gatherMissed : Cond.code yX2_gatherMissed cX2_gatherMissed 5 none ∈ TB := tbm3 (i := 131) rfl rfl
theorem TM_X2_107 : Cond.methodLink RX2 107 yJ9_max_7cf53 ∈ TB := tbm3 (i := 132) rfl rfl
theorem TM_X2_110 : Cond.methodLink RX2 110 yJ9_abs_0f7a4 ∈ TB := tbm3 (i := 133) rfl rfl
theorem TT_J9_abs_0f7a4 : Cond.static yJ9_abs_0f7a4 ∈ TB := tbm3 (i := 134) rfl rfl
theorem TC_J9_abs_0f7a4 : Cond.code yJ9_abs_0f7a4 cJ9_abs_0f7a4 1 (some .int) ∈ TB := tbm3 (i := 135) rfl rfl
theorem TK_X2_96 : Cond.constantLong RX2 96 (1000000) ∈ TB := tbm3 (i := 136) rfl rfl
theorem TM_X2_98 : Cond.methodLink RX2 98 yJ9_max_f86c9 ∈ TB := tbm3 (i := 137) rfl rfl
theorem TM_X1_47 : Cond.methodLink RX1 47 yX1_weigh ∈ TB := tbm3 (i := 138) rfl rfl
theorem TI_X1_weigh : Cond.instanceMethod yX1_weigh ∈ TB := tbm3 (i := 140) rfl rfl
theorem TC_X1_weigh : Cond.code yX1_weigh cX1_weigh 8 none ∈ TB := tbm3 (i := 141) rfl rfl
theorem TK_X1_112 : Cond.constantLong RX1 112 (100) ∈ TB := tbm3 (i := 142) rfl rfl
theorem TM_X1_114 : Cond.methodLink RX1 114 yJ9_max_f86c9 ∈ TB := tbm3 (i := 143) rfl rfl
theorem TM_X1_120 : Cond.methodLink RX1 120 yJ9_min_f86c9 ∈ TB := tbm3 (i := 144) rfl rfl
theorem TM_X1_51 : Cond.methodLink RX1 51 yX1_makePaper ∈ TB := tbm3 (i := 145) rfl rfl
theorem TI_X1_makePaper : Cond.instanceMethod yX1_makePaper ∈ TB := tbm3 (i := 147) rfl rfl
theorem TC_X1_makePaper : Cond.code yX1_makePaper cX1_makePaper 9 (some .long) ∈ TB := tbm3 (i := 148) rfl rfl
theorem TM_X1_123 : Cond.methodLink RX1 123 yX7_ofClock ∈ TB := tbm3 (i := 149) rfl rfl
theorem TK_X1_127 : Cond.constant RX1 127 (2000000000) ∈ TB := tbm3 (i := 150) rfl rfl
theorem TM_X1_67 : Cond.methodLink RX1 67 yX7_tellPaper ∈ TB := tbm3 (i := 151) rfl rfl
theorem TI_X7_tellPaper : Cond.instanceMethod yX7_tellPaper ∈ TB := tbm3 (i := 152) rfl rfl
theorem TS_X7_tellPaper : Cond.selects RX7 yX7_tellPaper yX7_tellPaper ∈ TB := tbm3 (i := 153) rfl rfl
theorem TC_X7_tellPaper : Cond.code yX7_tellPaper cX7_tellPaper 4 none ∈ TB := tbm3 (i := 154) rfl rfl
theorem TM_X1_128 : Cond.methodLink RX1 128 yJ9_floorMod_f86c9 ∈ TB := tbm3 (i := 155) rfl rfl
theorem TT_J9_floorMod_f86c9 : Cond.static yJ9_floorMod_f86c9 ∈ TB := tbm3 (i := 156) rfl rfl
theorem TC_J9_floorMod_f86c9 : Cond.code yJ9_floorMod_f86c9 cJ9_floorMod_f86c9 6 (some .long) ∈ TB := tbm3 (i := 157) rfl rfl
theorem TM_X1_131 : Cond.methodLink RX1 131 yJ9_floorDiv_f86c9 ∈ TB := tbm3 (i := 158) rfl rfl
theorem TM_X1_55 : Cond.methodLink RX1 55 yX1_tellXs ∈ TB := tbm3 (i := 159) rfl rfl
theorem TI_X1_tellXs : Cond.instanceMethod yX1_tellXs ∈ TB := tbm3 (i := 161) rfl rfl
theorem TC_X1_tellXs : Cond.code yX1_tellXs cX1_tellXs 9 none ∈ TB := tbm3 (i := 162) rfl rfl
theorem TM_X1_59 : Cond.methodLink RX1 59 yX1_judgeAll ∈ TB := tbm3 (i := 164) rfl rfl
theorem TI_X1_judgeAll : Cond.instanceMethod yX1_judgeAll ∈ TB := tbm3 (i := 166) rfl rfl
theorem TC_X1_judgeAll : Cond.code yX1_judgeAll cX1_judgeAll 6 none ∈ TB := tbm3 (i := 167) rfl rfl
theorem TM_X1_142 : Cond.methodLink RX1 142 yX1_judge ∈ TB := tbm3 (i := 168) rfl rfl
theorem TI_X1_judge : Cond.instanceMethod yX1_judge ∈ TB := tbm3 (i := 170) rfl rfl
theorem TC_X1_judge : Cond.code yX1_judge cX1_judge 5 none ∈ TB := tbm3 (i := 171) rfl rfl
theorem TM_X1_146 : Cond.methodLink RX1 146 yX2_drifts ∈ TB := tbm3 (i := 172) rfl rfl
theorem TI_X2_drifts : Cond.instanceMethod yX2_drifts ∈ TB := tbm3 (i := 173) rfl rfl
theorem TS_X2_drifts : Cond.selects RX2 yX2_drifts yX2_drifts ∈ TB := tbm3 (i := 174) rfl rfl
theorem TC_X2_drifts : Cond.code yX2_drifts cX2_drifts 6 (some .boolean) ∈ TB := tbm3 (i := 175) rfl rfl
theorem TM_X2_114 : Cond.methodLink RX2 114 yX2_missedOf ∈ TB := tbm3 (i := 176) rfl rfl
theorem TI_X2_missedOf : Cond.instanceMethod yX2_missedOf ∈ TB := tbm3 (i := 177) rfl rfl
theorem TS_X2_missedOf : Cond.selects RX2 yX2_missedOf yX2_missedOf ∈ TB := tbm3 (i := 178) rfl rfl
theorem TC_X2_missedOf : Cond.code yX2_missedOf cX2_missedOf 3 (some .int) ∈ TB := tbm3 (i := 179) rfl rfl
theorem TM_X2_117 : Cond.methodLink RX2 117 yX2_haveOneSign ∈ TB := tbm3 (i := 180) rfl rfl
theorem TT_X2_haveOneSign : Cond.static yX2_haveOneSign ∈ TB := tbm3 (i := 181) rfl rfl
theorem TC_X2_haveOneSign : Cond.code yX2_haveOneSign cX2_haveOneSign 2 (some .boolean) ∈ TB := tbm3 (i := 182) rfl rfl
theorem TM_X1_155 : Cond.methodLink RX1 155 yX1_judgeSuspect ∈ TB := tbm3 (i := 183) rfl rfl
theorem TI_X1_judgeSuspect : Cond.instanceMethod yX1_judgeSuspect ∈ TB := tbm3 (i := 185) rfl rfl
theorem TC_X1_judgeSuspect : Cond.code yX1_judgeSuspect cX1_judgeSuspect 6 none ∈ TB := tbm3 (i := 186) rfl rfl
theorem TM_X1_166 : Cond.methodLink RX1 166 yX2_missedOf ∈ TB := tbm3 (i := 187) rfl rfl
theorem TM_X1_169 : Cond.methodLink RX1 169 yX2_haveOneSign ∈ TB := tbm3 (i := 188) rfl rfl
theorem TM_X1_159 : Cond.methodLink RX1 159 yJ9_abs_0f7a4 ∈ TB := tbm3 (i := 189) rfl rfl
theorem TM_X1_175 : Cond.methodLink RX1 175 yX6_add ∈ TB := tbm3 (i := 190) rfl rfl
theorem TI_X6_add : Cond.instanceMethod yX6_add ∈ TB := tbm3 (i := 191) rfl rfl
theorem TS_X6_add : Cond.selects RX6 yX6_add yX6_add ∈ TB := tbm3 (i := 192) rfl rfl
theorem TC_X6_add : Cond.code yX6_add cX6_add 4 none ∈ TB := tbm3 (i := 193) rfl rfl
theorem TM_X1_162 : Cond.methodLink RX1 162 yX2_usuallyMissedBy ∈ TB := tbm3 (i := 194) rfl rfl
theorem TI_X2_usuallyMissedBy : Cond.instanceMethod yX2_usuallyMissedBy ∈ TB := tbm3 (i := 195) rfl rfl
theorem TS_X2_usuallyMissedBy : Cond.selects RX2 yX2_usuallyMissedBy yX2_usuallyMissedBy ∈ TB := tbm3 (i := 196) rfl rfl
theorem TC_X2_usuallyMissedBy : Cond.code yX2_usuallyMissedBy cX2_usuallyMissedBy 3 (some .long) ∈ TB := tbm3 (i := 197) rfl rfl
theorem TM_X9_197 : Cond.methodLink RX9 197 yX9_moveScale ∈ TB := tbm3 (i := 198) rfl rfl
theorem TI_X9_moveScale : Cond.instanceMethod yX9_moveScale ∈ TB := tbm3 (i := 200) rfl rfl
theorem TC_X9_moveScale : Cond.code yX9_moveScale cX9_moveScale 1 none ∈ TB := tbm3 (i := 201) rfl rfl
theorem TM_X9_200 : Cond.methodLink RX9 200 yX7_tellPaper ∈ TB := tbm3 (i := 202) rfl rfl
theorem TM_L_88 : Cond.methodLink RL 88 yX9_hour ∈ TB := tbm3 (i := 203) rfl rfl
theorem TI_X9_hour : Cond.instanceMethod yX9_hour ∈ TB := tbm3 (i := 204) rfl rfl
theorem TS_X9_hour : Cond.selects RX9 yX9_hour yX9_hour ∈ TB := tbm3 (i := 205) rfl rfl
theorem TC_X9_hour : Cond.code yX9_hour cX9_hour 1 (some .int) ∈ TB := tbm3 (i := 206) rfl rfl
theorem TM_L_92 : Cond.methodLink RL 92 yX9_clock ∈ TB := tbm3 (i := 207) rfl rfl
theorem TI_X9_clock : Cond.instanceMethod yX9_clock ∈ TB := tbm3 (i := 208) rfl rfl
theorem TS_X9_clock : Cond.selects RX9 yX9_clock yX9_clock ∈ TB := tbm3 (i := 209) rfl rfl
theorem TC_X9_clock : Cond.code yX9_clock cX9_clock 4 (some .int) ∈ TB := tbm3 (i := 210) rfl rfl
theorem TM_X9_204 : Cond.methodLink RX9 204 yX0_isTaken ∈ TB := tbm3 (i := 211) rfl rfl
theorem TM_X9_213 : Cond.methodLink RX9 213 yX2_countXs ∈ TB := tbm3 (i := 212) rfl rfl
theorem TI_X2_countXs : Cond.instanceMethod yX2_countXs ∈ TB := tbm3 (i := 213) rfl rfl
theorem TS_X2_countXs : Cond.selects RX2 yX2_countXs yX2_countXs ∈ TB := tbm3 (i := 214) rfl rfl
theorem TC_X2_countXs : Cond.code yX2_countXs cX2_countXs 5 (some .int) ∈ TB := tbm3 (i := 215) rfl rfl
theorem TM_L_96 : Cond.methodLink RL 96 yX9_foretell ∈ TB := tbm3 (i := 216) rfl rfl
theorem TI_X9_foretell : Cond.instanceMethod yX9_foretell ∈ TB := tbm3 (i := 217) rfl rfl
theorem TS_X9_foretell : Cond.selects RX9 yX9_foretell yX9_foretell ∈ TB := tbm3 (i := 218) rfl rfl
theorem TC_X9_foretell : Cond.code yX9_foretell cX9_foretell 3 (some .int) ∈ TB := tbm3 (i := 219) rfl rfl
theorem TM_X9_228 : Cond.methodLink RX9 228 yX2_foretoldOf ∈ TB := tbm3 (i := 220) rfl rfl
theorem TM_L_100 : Cond.methodLink RL 100 yX9_slope ∈ TB := tbm3 (i := 221) rfl rfl
theorem TI_X9_slope : Cond.instanceMethod yX9_slope ∈ TB := tbm3 (i := 222) rfl rfl
theorem TS_X9_slope : Cond.selects RX9 yX9_slope yX9_slope ∈ TB := tbm3 (i := 223) rfl rfl
theorem TC_X9_slope : Cond.code yX9_slope cX9_slope 7 (some .int) ∈ TB := tbm3 (i := 224) rfl rfl
theorem TM_X9_231 : Cond.methodLink RX9 231 yX2_lineOf ∈ TB := tbm3 (i := 225) rfl rfl
theorem TM_X9_235 : Cond.methodLink RX9 235 yX3_count ∈ TB := tbm3 (i := 226) rfl rfl
theorem TK_X9_240 : Cond.constant RX9 240 (2000000000) ∈ TB := tbm3 (i := 227) rfl rfl
theorem TM_X9_241 : Cond.methodLink RX9 241 yX3_slopeAbove ∈ TB := tbm3 (i := 228) rfl rfl
theorem TI_X3_slopeAbove : Cond.instanceMethod yX3_slopeAbove ∈ TB := tbm3 (i := 229) rfl rfl
theorem TS_X3_slopeAbove : Cond.selects RX3 yX3_slopeAbove yX3_slopeAbove ∈ TB := tbm3 (i := 230) rfl rfl
theorem TC_X3_slopeAbove : Cond.code yX3_slopeAbove cX3_slopeAbove 3 (some .long) ∈ TB := tbm3 (i := 231) rfl rfl
theorem TM_X3_36 : Cond.methodLink RX3 36 yX3_divisorOfBoth ∈ TB := tbm3 (i := 232) rfl rfl
theorem TI_X3_divisorOfBoth : Cond.instanceMethod yX3_divisorOfBoth ∈ TB := tbm3 (i := 234) rfl rfl
theorem TC_X3_divisorOfBoth : Cond.code yX3_divisorOfBoth cX3_divisorOfBoth 8 (some .long) ∈ TB := tbm3 (i := 235) rfl rfl
theorem TM_X3_39 : Cond.methodLink RX3 39 yX3_rawAbove ∈ TB := tbm3 (i := 236) rfl rfl
theorem TI_X3_rawAbove : Cond.instanceMethod yX3_rawAbove ∈ TB := tbm3 (i := 238) rfl rfl
theorem TC_X3_rawAbove : Cond.code yX3_rawAbove cX3_rawAbove 1 (some .long) ∈ TB := tbm3 (i := 239) rfl rfl
theorem TM_X3_42 : Cond.methodLink RX3 42 yJ9_abs_067f4 ∈ TB := tbm4 (i := 0) rfl rfl
theorem TT_J9_abs_067f4 : Cond.static yJ9_abs_067f4 ∈ TB := tbm4 (i := 1) rfl rfl
theorem TC_J9_abs_067f4 : Cond.code yJ9_abs_067f4 cJ9_abs_067f4 2 (some .long) ∈ TB := tbm4 (i := 2) rfl rfl
theorem TM_X9_245 : Cond.methodLink RX9 245 yX3_slopeBelow ∈ TB := tbm4 (i := 3) rfl rfl
theorem TI_X3_slopeBelow : Cond.instanceMethod yX3_slopeBelow ∈ TB := tbm4 (i := 4) rfl rfl
theorem TS_X3_slopeBelow : Cond.selects RX3 yX3_slopeBelow yX3_slopeBelow ∈ TB := tbm4 (i := 5) rfl rfl
theorem TC_X3_slopeBelow : Cond.code yX3_slopeBelow cX3_slopeBelow 3 (some .long) ∈ TB := tbm4 (i := 6) rfl rfl
theorem TK_X9_248 : Cond.constant RX9 248 (1000000000) ∈ TB := tbm4 (i := 7) rfl rfl
theorem TM_X9_249 : Cond.methodLink RX9 249 yX9_cut ∈ TB := tbm4 (i := 8) rfl rfl
theorem TM_L_104 : Cond.methodLink RL 104 yX9_weight ∈ TB := tbm4 (i := 9) rfl rfl
theorem TI_X9_weight : Cond.instanceMethod yX9_weight ∈ TB := tbm4 (i := 10) rfl rfl
theorem TS_X9_weight : Cond.selects RX9 yX9_weight yX9_weight ∈ TB := tbm4 (i := 11) rfl rfl
theorem TC_X9_weight : Cond.code yX9_weight cX9_weight 3 (some .int) ∈ TB := tbm4 (i := 12) rfl rfl
theorem TM_X9_253 : Cond.methodLink RX9 253 yX2_fullWeightOf ∈ TB := tbm4 (i := 13) rfl rfl
theorem TM_L_108 : Cond.methodLink RL 108 yX9_as ∈ TB := tbm4 (i := 14) rfl rfl
theorem TI_X9_as : Cond.instanceMethod yX9_as ∈ TB := tbm4 (i := 15) rfl rfl
theorem TS_X9_as : Cond.selects RX9 yX9_as yX9_as ∈ TB := tbm4 (i := 16) rfl rfl
theorem TC_X9_as : Cond.code yX9_as cX9_as 4 (some .int) ∈ TB := tbm4 (i := 17) rfl rfl
theorem TM_X9_257 : Cond.methodLink RX9 257 yX7_ofClock ∈ TB := tbm4 (i := 18) rfl rfl
theorem TM_L_112 : Cond.methodLink RL 112 yX9_paper ∈ TB := tbm4 (i := 19) rfl rfl
theorem TI_X9_paper : Cond.instanceMethod yX9_paper ∈ TB := tbm4 (i := 20) rfl rfl
theorem TS_X9_paper : Cond.selects RX9 yX9_paper yX9_paper ∈ TB := tbm4 (i := 21) rfl rfl
theorem TC_X9_paper : Cond.code yX9_paper cX9_paper 3 (some .int) ∈ TB := tbm4 (i := 22) rfl rfl
theorem TM_X9_260 : Cond.methodLink RX9 260 yX7_ofPaper ∈ TB := tbm4 (i := 23) rfl rfl
theorem TI_X7_ofPaper : Cond.instanceMethod yX7_ofPaper ∈ TB := tbm4 (i := 24) rfl rfl
theorem TS_X7_ofPaper : Cond.selects RX7 yX7_ofPaper yX7_ofPaper ∈ TB := tbm4 (i := 25) rfl rfl
theorem TC_X7_ofPaper : Cond.code yX7_ofPaper cX7_ofPaper 3 (some .int) ∈ TB := tbm4 (i := 26) rfl rfl
theorem TM_L_116 : Cond.methodLink RL 116 yX9_step ∈ TB := tbm4 (i := 27) rfl rfl
theorem TI_X9_step : Cond.instanceMethod yX9_step ∈ TB := tbm4 (i := 28) rfl rfl
theorem TS_X9_step : Cond.selects RX9 yX9_step yX9_step ∈ TB := tbm4 (i := 29) rfl rfl
theorem TC_X9_step : Cond.code yX9_step cX9_step 3 (some .int) ∈ TB := tbm4 (i := 30) rfl rfl
theorem TM_X9_263 : Cond.methodLink RX9 263 yX6_valueOf ∈ TB := tbm4 (i := 31) rfl rfl
theorem TI_X6_valueOf : Cond.instanceMethod yX6_valueOf ∈ TB := tbm4 (i := 32) rfl rfl
theorem TS_X6_valueOf : Cond.selects RX6 yX6_valueOf yX6_valueOf ∈ TB := tbm4 (i := 33) rfl rfl
theorem TC_X6_valueOf : Cond.code yX6_valueOf cX6_valueOf 3 (some .int) ∈ TB := tbm4 (i := 34) rfl rfl
theorem TM_L_120 : Cond.methodLink RL 120 yX9_show ∈ TB := tbm4 (i := 35) rfl rfl
theorem TI_X9_show : Cond.instanceMethod yX9_show ∈ TB := tbm4 (i := 36) rfl rfl
theorem TS_X9_show : Cond.selects RX9 yX9_show yX9_show ∈ TB := tbm4 (i := 37) rfl rfl
theorem TC_X9_show : Cond.code yX9_show cX9_show 2 (some .boolean) ∈ TB := tbm4 (i := 38) rfl rfl
theorem TM_L_125 : Cond.methodLink RL 125 yX9_off ∈ TB := tbm4 (i := 39) rfl rfl
theorem TI_X9_off : Cond.instanceMethod yX9_off ∈ TB := tbm4 (i := 40) rfl rfl
theorem TS_X9_off : Cond.selects RX9 yX9_off yX9_off ∈ TB := tbm4 (i := 41) rfl rfl
theorem TC_X9_off : Cond.code yX9_off cX9_off 1 (some .int) ∈ TB := tbm4 (i := 42) rfl rfl
theorem TM_L_129 : Cond.methodLink RL 129 yX9_ring ∈ TB := tbm4 (i := 43) rfl rfl
theorem TI_X9_ring : Cond.instanceMethod yX9_ring ∈ TB := tbm4 (i := 44) rfl rfl
theorem TS_X9_ring : Cond.selects RX9 yX9_ring yX9_ring ∈ TB := tbm4 (i := 45) rfl rfl
theorem TC_X9_ring : Cond.code yX9_ring cX9_ring 8 (some .int) ∈ TB := tbm4 (i := 46) rfl rfl
theorem TM_X9_266 : Cond.methodLink RX9 266 yX5_toldBetween ∈ TB := tbm4 (i := 47) rfl rfl
theorem TI_X5_toldBetween : Cond.instanceMethod yX5_toldBetween ∈ TB := tbm4 (i := 48) rfl rfl
theorem TS_X5_toldBetween : Cond.selects RX5 yX5_toldBetween yX5_toldBetween ∈ TB := tbm4 (i := 49) rfl rfl
theorem TC_X5_toldBetween : Cond.code yX5_toldBetween cX5_toldBetween 6 (some .int) ∈ TB := tbm4 (i := 50) rfl rfl
theorem TM_X5_64 : Cond.methodLink RX5 64 yX4_toldAt ∈ TB := tbm4 (i := 51) rfl rfl
theorem TK_X5_67 : Cond.constant RX5 67 (1000000) ∈ TB := tbm4 (i := 52) rfl rfl
theorem TL_L_10 : Cond.classLink RL 10 RX10 ∈ TB := tbm4 (i := 53) rfl rfl
theorem TB_X10 : Cond.instantiable RX10 49 ∈ TB := tbm4 (i := 54) rfl rfl
theorem TM_L_12 : Cond.methodLink RL 12 yX10_init ∈ TB := tbm4 (i := 55) rfl rfl
theorem TI_X10_init : Cond.instanceMethod yX10_init ∈ TB := tbm4 (i := 56) rfl rfl
theorem TC_X10_init : Cond.code yX10_init cX10_init 1 none ∈ TB := tbm4 (i := 57) rfl rfl
theorem TM_X10_1 : Cond.methodLink RX10 1 objectInit ∈ TB := tbm4 (i := 58) rfl rfl
theorem TF_X10_9 : Cond.fieldLink RX10 9 "TimeBenchModel" "kinds" "[I" ∈ TB := tbm4 (i := 59) rfl rfl
theorem TF_X10_13 : Cond.fieldLink RX10 13 "TimeBenchModel" "one" "[I" ∈ TB := tbm4 (i := 60) rfl rfl
theorem TF_X10_16 : Cond.fieldLink RX10 16 "TimeBenchModel" "two" "[I" ∈ TB := tbm4 (i := 61) rfl rfl
theorem TF_X10_19 : Cond.fieldLink RX10 19 "TimeBenchModel" "taken" "[Z" ∈ TB := tbm4 (i := 62) rfl rfl
theorem TF_X10_23 : Cond.fieldLink RX10 23 "TimeBenchModel" "called" "[Z" ∈ TB := tbm4 (i := 63) rfl rfl
theorem TF_X10_26 : Cond.fieldLink RX10 26 "TimeBenchModel" "isOut" "[Z" ∈ TB := tbm4 (i := 64) rfl rfl
theorem TF_X10_29 : Cond.fieldLink RX10 29 "TimeBenchModel" "setting" "[I" ∈ TB := tbm4 (i := 65) rfl rfl
theorem TF_X10_32 : Cond.fieldLink RX10 32 "TimeBenchModel" "since" "[I" ∈ TB := tbm4 (i := 66) rfl rfl
theorem TF_X10_35 : Cond.fieldLink RX10 35 "TimeBenchModel" "suspect" "[I" ∈ TB := tbm4 (i := 67) rfl rfl
theorem TF_X10_38 : Cond.fieldLink RX10 38 "TimeBenchModel" "stepMany" "[I" ∈ TB := tbm4 (i := 68) rfl rfl
theorem TF_X10_41 : Cond.fieldLink RX10 41 "TimeBenchModel" "drifts" "[I" ∈ TB := tbm4 (i := 69) rfl rfl
theorem TF_X10_44 : Cond.fieldLink RX10 44 "TimeBenchModel" "ways" "[I" ∈ TB := tbm4 (i := 70) rfl rfl
theorem TF_X10_47 : Cond.fieldLink RX10 47 "TimeBenchModel" "there" "[I" ∈ TB := tbm4 (i := 71) rfl rfl
theorem TF_X10_50 : Cond.fieldLink RX10 50 "TimeBenchModel" "backs" "[I" ∈ TB := tbm4 (i := 72) rfl rfl
theorem TF_X10_53 : Cond.fieldLink RX10 53 "TimeBenchModel" "hasThere" "[Z" ∈ TB := tbm4 (i := 73) rfl rfl
theorem TF_X10_56 : Cond.fieldLink RX10 56 "TimeBenchModel" "hasBack" "[Z" ∈ TB := tbm4 (i := 74) rfl rfl
theorem TF_X10_59 : Cond.fieldLink RX10 59 "TimeBenchModel" "hasX" "[Z" ∈ TB := tbm4 (i := 75) rfl rfl
theorem TF_X10_62 : Cond.fieldLink RX10 62 "TimeBenchModel" "hasF" "[Z" ∈ TB := tbm4 (i := 76) rfl rfl
theorem TF_X10_65 : Cond.fieldLink RX10 65 "TimeBenchModel" "xs" "[I" ∈ TB := tbm4 (i := 77) rfl rfl
theorem TF_X10_68 : Cond.fieldLink RX10 68 "TimeBenchModel" "fs" "[I" ∈ TB := tbm4 (i := 78) rfl rfl
theorem TF_X10_71 : Cond.fieldLink RX10 71 "TimeBenchModel" "ms" "[I" ∈ TB := tbm4 (i := 79) rfl rfl
theorem TF_X10_74 : Cond.fieldLink RX10 74 "TimeBenchModel" "ws" "[I" ∈ TB := tbm4 (i := 80) rfl rfl
theorem TF_X10_77 : Cond.fieldLink RX10 77 "TimeBenchModel" "ds" "[I" ∈ TB := tbm4 (i := 81) rfl rfl
theorem TF_X10_80 : Cond.fieldLink RX10 80 "TimeBenchModel" "roots" "[I" ∈ TB := tbm4 (i := 82) rfl rfl
theorem TF_X10_83 : Cond.fieldLink RX10 83 "TimeBenchModel" "presents" "[I" ∈ TB := tbm4 (i := 83) rfl rfl
theorem TF_X10_86 : Cond.fieldLink RX10 86 "TimeBenchModel" "rests" "[I" ∈ TB := tbm4 (i := 84) rfl rfl
theorem TF_X10_89 : Cond.fieldLink RX10 89 "TimeBenchModel" "offs" "[I" ∈ TB := tbm4 (i := 85) rfl rfl
theorem TF_X10_92 : Cond.fieldLink RX10 92 "TimeBenchModel" "parts" "[I" ∈ TB := tbm4 (i := 86) rfl rfl
theorem TF_X10_95 : Cond.fieldLink RX10 95 "TimeBenchModel" "sums" "[I" ∈ TB := tbm4 (i := 87) rfl rfl
theorem TF_X10_137 : Cond.fieldLink RX10 137 "TimeBenchModel" "now" "I" ∈ TB := tbm4 (i := 88) rfl rfl
theorem TF_X10_98 : Cond.fieldLink RX10 98 "TimeBenchModel" "part" "I" ∈ TB := tbm4 (i := 89) rfl rfl
theorem TF_X10_102 : Cond.fieldLink RX10 102 "TimeBenchModel" "times" "I" ∈ TB := tbm4 (i := 90) rfl rfl
theorem TF_X10_105 : Cond.fieldLink RX10 105 "TimeBenchModel" "pace" "I" ∈ TB := tbm4 (i := 91) rfl rfl
theorem TF_X10_235 : Cond.fieldLink RX10 235 "TimeBenchModel" "off" "I" ∈ TB := tbm4 (i := 92) rfl rfl
theorem TF_X10_108 : Cond.fieldLink RX10 108 "TimeBenchModel" "stepHour" "[I" ∈ TB := tbm4 (i := 93) rfl rfl
theorem TF_X10_111 : Cond.fieldLink RX10 111 "TimeBenchModel" "stepPlace" "[I" ∈ TB := tbm4 (i := 94) rfl rfl
theorem TF_X10_114 : Cond.fieldLink RX10 114 "TimeBenchModel" "stepMissed" "[I" ∈ TB := tbm4 (i := 95) rfl rfl
theorem TF_X10_254 : Cond.fieldLink RX10 254 "TimeBenchModel" "steps" "I" ∈ TB := tbm4 (i := 96) rfl rfl
theorem TF_X10_117 : Cond.fieldLink RX10 117 "TimeBenchModel" "far" "[I" ∈ TB := tbm4 (i := 97) rfl rfl
theorem TF_X10_120 : Cond.fieldLink RX10 120 "TimeBenchModel" "going" "[I" ∈ TB := tbm4 (i := 98) rfl rfl
theorem TF_X10_123 : Cond.fieldLink RX10 123 "TimeBenchModel" "gone" "[I" ∈ TB := tbm4 (i := 99) rfl rfl
theorem TF_X10_155 : Cond.fieldLink RX10 155 "TimeBenchModel" "goings" "I" ∈ TB := tbm4 (i := 100) rfl rfl
theorem TF_X10_167 : Cond.fieldLink RX10 167 "TimeBenchModel" "gones" "I" ∈ TB := tbm4 (i := 101) rfl rfl
theorem TF_X10_158 : Cond.fieldLink RX10 158 "TimeBenchModel" "difference" "I" ∈ TB := tbm4 (i := 102) rfl rfl
theorem TF_X10_176 : Cond.fieldLink RX10 176 "TimeBenchModel" "points" "I" ∈ TB := tbm4 (i := 103) rfl rfl
theorem TF_X10_182 : Cond.fieldLink RX10 182 "TimeBenchModel" "above" "J" ∈ TB := tbm4 (i := 104) rfl rfl
theorem TF_X10_186 : Cond.fieldLink RX10 186 "TimeBenchModel" "below" "J" ∈ TB := tbm4 (i := 105) rfl rfl
theorem TF_X10_189 : Cond.fieldLink RX10 189 "TimeBenchModel" "lineAt" "J" ∈ TB := tbm4 (i := 106) rfl rfl
theorem TF_X10_126 : Cond.fieldLink RX10 126 "TimeBenchModel" "present" "[Z" ∈ TB := tbm4 (i := 107) rfl rfl
theorem TA_boolean : Cond.arrayClass .boolean ∈ TB := tbm4 (i := 207) rfl rfl
theorem TM_L_17 : Cond.methodLink RL 17 yX10_put ∈ TB := tbm4 (i := 208) rfl rfl
theorem TI_X10_put : Cond.instanceMethod yX10_put ∈ TB := tbm4 (i := 209) rfl rfl
theorem TS_X10_put : Cond.selects RX10 yX10_put yX10_put ∈ TB := tbm4 (i := 210) rfl rfl
theorem TC_X10_put : Cond.code yX10_put cX10_put 6 (some .int) ∈ TB := tbm4 (i := 211) rfl rfl
theorem TM_X10_129 : Cond.methodLink RX10 129 yX10_isIn ∈ TB := tbm4 (i := 212) rfl rfl
theorem TT_X10_isIn : Cond.static yX10_isIn ∈ TB := tbm4 (i := 213) rfl rfl
theorem TC_X10_isIn : Cond.code yX10_isIn cX10_isIn 3 (some .boolean) ∈ TB := tbm4 (i := 214) rfl rfl
theorem TM_X10_133 : Cond.methodLink RX10 133 yX10_isClock ∈ TB := tbm4 (i := 215) rfl rfl
theorem TI_X10_isClock : Cond.instanceMethod yX10_isClock ∈ TB := tbm4 (i := 217) rfl rfl
theorem TC_X10_isClock : Cond.code yX10_isClock cX10_isClock 2 (some .boolean) ∈ TB := tbm4 (i := 218) rfl rfl
theorem TM_X10_140 : Cond.methodLink RX10 140 yX10_at ∈ TB := tbm4 (i := 219) rfl rfl
theorem TI_X10_at : Cond.instanceMethod yX10_at ∈ TB := tbm4 (i := 221) rfl rfl
theorem TC_X10_at : Cond.code yX10_at cX10_at 3 (some .int) ∈ TB := tbm4 (i := 222) rfl rfl
theorem TM_L_22 : Cond.methodLink RL 22 yX10_lift ∈ TB := tbm4 (i := 223) rfl rfl
theorem TI_X10_lift : Cond.instanceMethod yX10_lift ∈ TB := tbm4 (i := 224) rfl rfl
theorem TS_X10_lift : Cond.selects RX10 yX10_lift yX10_lift ∈ TB := tbm4 (i := 225) rfl rfl
theorem TC_X10_lift : Cond.code yX10_lift cX10_lift 3 (some .int) ∈ TB := tbm4 (i := 226) rfl rfl
theorem TM_X10_144 : Cond.methodLink RX10 144 yX10_fails ∈ TB := tbm4 (i := 227) rfl rfl
theorem TI_X10_fails : Cond.instanceMethod yX10_fails ∈ TB := tbm4 (i := 229) rfl rfl
theorem TC_X10_fails : Cond.code yX10_fails cX10_fails 4 (some .int) ∈ TB := tbm4 (i := 230) rfl rfl
theorem TM_X10_148 : Cond.methodLink RX10 148 yX10_isLink ∈ TB := tbm4 (i := 231) rfl rfl
theorem TI_X10_isLink : Cond.instanceMethod yX10_isLink ∈ TB := tbm4 (i := 233) rfl rfl
theorem TC_X10_isLink : Cond.code yX10_isLink cX10_isLink 2 (some .boolean) ∈ TB := tbm4 (i := 234) rfl rfl
theorem TM_L_26 : Cond.methodLink RL 26 yX10_kind ∈ TB := tbm4 (i := 235) rfl rfl
theorem TI_X10_kind : Cond.instanceMethod yX10_kind ∈ TB := tbm4 (i := 236) rfl rfl
theorem TS_X10_kind : Cond.selects RX10 yX10_kind yX10_kind ∈ TB := tbm4 (i := 237) rfl rfl
theorem TC_X10_kind : Cond.code yX10_kind cX10_kind 2 (some .int) ∈ TB := tbm4 (i := 238) rfl rfl
theorem TM_L_31 : Cond.methodLink RL 31 yX10_read ∈ TB := tbm4 (i := 239) rfl rfl
theorem TI_X10_read : Cond.instanceMethod yX10_read ∈ TB := tbm5 (i := 0) rfl rfl
theorem TS_X10_read : Cond.selects RX10 yX10_read yX10_read ∈ TB := tbm5 (i := 1) rfl rfl
theorem TC_X10_read : Cond.code yX10_read cX10_read 4 (some .int) ∈ TB := tbm5 (i := 2) rfl rfl
theorem TM_L_35 : Cond.methodLink RL 35 yX10_back ∈ TB := tbm5 (i := 3) rfl rfl
theorem TI_X10_back : Cond.instanceMethod yX10_back ∈ TB := tbm5 (i := 4) rfl rfl
theorem TS_X10_back : Cond.selects RX10 yX10_back yX10_back ∈ TB := tbm5 (i := 5) rfl rfl
theorem TC_X10_back : Cond.code yX10_back cX10_back 4 (some .int) ∈ TB := tbm5 (i := 6) rfl rfl
theorem TM_L_39 : Cond.methodLink RL 39 yX10_tear ∈ TB := tbm5 (i := 7) rfl rfl
theorem TI_X10_tear : Cond.instanceMethod yX10_tear ∈ TB := tbm5 (i := 8) rfl rfl
theorem TS_X10_tear : Cond.selects RX10 yX10_tear yX10_tear ∈ TB := tbm5 (i := 9) rfl rfl
theorem TC_X10_tear : Cond.code yX10_tear cX10_tear 5 (some .int) ∈ TB := tbm5 (i := 10) rfl rfl
theorem TM_L_43 : Cond.methodLink RL 43 yX10_way ∈ TB := tbm5 (i := 11) rfl rfl
theorem TI_X10_way : Cond.instanceMethod yX10_way ∈ TB := tbm5 (i := 12) rfl rfl
theorem TS_X10_way : Cond.selects RX10 yX10_way yX10_way ∈ TB := tbm5 (i := 13) rfl rfl
theorem TC_X10_way : Cond.code yX10_way cX10_way 4 (some .int) ∈ TB := tbm5 (i := 14) rfl rfl
theorem TM_L_47 : Cond.methodLink RL 47 yX10_tells ∈ TB := tbm5 (i := 15) rfl rfl
theorem TI_X10_tells : Cond.instanceMethod yX10_tells ∈ TB := tbm5 (i := 16) rfl rfl
theorem TS_X10_tells : Cond.selects RX10 yX10_tells yX10_tells ∈ TB := tbm5 (i := 17) rfl rfl
theorem TC_X10_tells : Cond.code yX10_tells cX10_tells 4 (some .int) ∈ TB := tbm5 (i := 18) rfl rfl
theorem TM_X10_152 : Cond.methodLink RX10 152 yX10_told ∈ TB := tbm5 (i := 19) rfl rfl
theorem TI_X10_told : Cond.instanceMethod yX10_told ∈ TB := tbm5 (i := 21) rfl rfl
theorem TC_X10_told : Cond.code yX10_told cX10_told 4 (some .int) ∈ TB := tbm5 (i := 22) rfl rfl
theorem TK_X10_151 : Cond.constant RX10 151 (1000000) ∈ TB := tbm5 (i := 23) rfl rfl
theorem TM_L_52 : Cond.methodLink RL 52 yX10_difference ∈ TB := tbm5 (i := 24) rfl rfl
theorem TI_X10_difference : Cond.instanceMethod yX10_difference ∈ TB := tbm5 (i := 25) rfl rfl
theorem TS_X10_difference : Cond.selects RX10 yX10_difference yX10_difference ∈ TB := tbm5 (i := 26) rfl rfl
theorem TC_X10_difference : Cond.code yX10_difference cX10_difference 5 (some .int) ∈ TB := tbm5 (i := 27) rfl rfl
theorem TM_X10_164 : Cond.methodLink RX10 164 yX10_goes ∈ TB := tbm5 (i := 28) rfl rfl
theorem TI_X10_goes : Cond.instanceMethod yX10_goes ∈ TB := tbm5 (i := 30) rfl rfl
theorem TC_X10_goes : Cond.code yX10_goes cX10_goes 9 (some .boolean) ∈ TB := tbm5 (i := 31) rfl rfl
theorem TM_X10_161 : Cond.methodLink RX10 161 yX10_other ∈ TB := tbm5 (i := 32) rfl rfl
theorem TI_X10_other : Cond.instanceMethod yX10_other ∈ TB := tbm5 (i := 34) rfl rfl
theorem TC_X10_other : Cond.code yX10_other cX10_other 3 (some .int) ∈ TB := tbm5 (i := 35) rfl rfl
theorem TM_L_56 : Cond.methodLink RL 56 yX10_along ∈ TB := tbm5 (i := 36) rfl rfl
theorem TI_X10_along : Cond.instanceMethod yX10_along ∈ TB := tbm5 (i := 37) rfl rfl
theorem TS_X10_along : Cond.selects RX10 yX10_along yX10_along ∈ TB := tbm5 (i := 38) rfl rfl
theorem TC_X10_along : Cond.code yX10_along cX10_along 6 (some .int) ∈ TB := tbm5 (i := 39) rfl rfl
theorem TM_L_60 : Cond.methodLink RL 60 yX10_link ∈ TB := tbm5 (i := 40) rfl rfl
theorem TI_X10_link : Cond.instanceMethod yX10_link ∈ TB := tbm5 (i := 41) rfl rfl
theorem TS_X10_link : Cond.selects RX10 yX10_link yX10_link ∈ TB := tbm5 (i := 42) rfl rfl
theorem TC_X10_link : Cond.code yX10_link cX10_link 2 (some .int) ∈ TB := tbm5 (i := 43) rfl rfl
theorem TM_L_64 : Cond.methodLink RL 64 yX10_take ∈ TB := tbm5 (i := 44) rfl rfl
theorem TI_X10_take : Cond.instanceMethod yX10_take ∈ TB := tbm5 (i := 45) rfl rfl
theorem TS_X10_take : Cond.selects RX10 yX10_take yX10_take ∈ TB := tbm5 (i := 46) rfl rfl
theorem TC_X10_take : Cond.code yX10_take cX10_take 3 (some .int) ∈ TB := tbm5 (i := 47) rfl rfl
theorem TM_L_68 : Cond.methodLink RL 68 yX10_leave ∈ TB := tbm5 (i := 48) rfl rfl
theorem TI_X10_leave : Cond.instanceMethod yX10_leave ∈ TB := tbm5 (i := 49) rfl rfl
theorem TS_X10_leave : Cond.selects RX10 yX10_leave yX10_leave ∈ TB := tbm5 (i := 50) rfl rfl
theorem TC_X10_leave : Cond.code yX10_leave cX10_leave 4 (some .int) ∈ TB := tbm5 (i := 51) rfl rfl
theorem TM_L_73 : Cond.methodLink RL 73 yX10_call ∈ TB := tbm5 (i := 52) rfl rfl
theorem TI_X10_call : Cond.instanceMethod yX10_call ∈ TB := tbm5 (i := 53) rfl rfl
theorem TS_X10_call : Cond.selects RX10 yX10_call yX10_call ∈ TB := tbm5 (i := 54) rfl rfl
theorem TC_X10_call : Cond.code yX10_call cX10_call 4 (some .int) ∈ TB := tbm5 (i := 55) rfl rfl
theorem TM_L_77 : Cond.methodLink RL 77 yX10_steer ∈ TB := tbm5 (i := 56) rfl rfl
theorem TI_X10_steer : Cond.instanceMethod yX10_steer ∈ TB := tbm5 (i := 57) rfl rfl
theorem TS_X10_steer : Cond.selects RX10 yX10_steer yX10_steer ∈ TB := tbm5 (i := 58) rfl rfl
theorem TC_X10_steer : Cond.code yX10_steer cX10_steer 4 (some .int) ∈ TB := tbm5 (i := 59) rfl rfl
theorem TK_X10_170 : Cond.constant RX10 170 (-100000) ∈ TB := tbm5 (i := 60) rfl rfl
theorem TK_X10_171 : Cond.constant RX10 171 (100000) ∈ TB := tbm5 (i := 61) rfl rfl
theorem TM_L_82 : Cond.methodLink RL 82 yX10_set ∈ TB := tbm5 (i := 62) rfl rfl
theorem TI_X10_set : Cond.instanceMethod yX10_set ∈ TB := tbm5 (i := 63) rfl rfl
theorem TS_X10_set : Cond.selects RX10 yX10_set yX10_set ∈ TB := tbm5 (i := 64) rfl rfl
theorem TC_X10_set : Cond.code yX10_set cX10_set 3 (some .boolean) ∈ TB := tbm5 (i := 65) rfl rfl
theorem TM_L_95 : Cond.methodLink RL 95 yX10_clock ∈ TB := tbm5 (i := 66) rfl rfl
theorem TI_X10_clock : Cond.instanceMethod yX10_clock ∈ TB := tbm5 (i := 67) rfl rfl
theorem TS_X10_clock : Cond.selects RX10 yX10_clock yX10_clock ∈ TB := tbm5 (i := 68) rfl rfl
theorem TC_X10_clock : Cond.code yX10_clock cX10_clock 6 (some .int) ∈ TB := tbm5 (i := 69) rfl rfl
theorem TM_X10_172 : Cond.methodLink RX10 172 yX10_isX ∈ TB := tbm5 (i := 70) rfl rfl
theorem TI_X10_isX : Cond.instanceMethod yX10_isX ∈ TB := tbm5 (i := 72) rfl rfl
theorem TC_X10_isX : Cond.code yX10_isX cX10_isX 3 (some .boolean) ∈ TB := tbm5 (i := 73) rfl rfl
theorem TM_X10_219 : Cond.methodLink RX10 219 yX10_isTaken ∈ TB := tbm5 (i := 74) rfl rfl
theorem TI_X10_isTaken : Cond.instanceMethod yX10_isTaken ∈ TB := tbm5 (i := 76) rfl rfl
theorem TC_X10_isTaken : Cond.code yX10_isTaken cX10_isTaken 2 (some .boolean) ∈ TB := tbm5 (i := 77) rfl rfl
theorem TM_L_99 : Cond.methodLink RL 99 yX10_foretell ∈ TB := tbm5 (i := 78) rfl rfl
theorem TI_X10_foretell : Cond.instanceMethod yX10_foretell ∈ TB := tbm5 (i := 79) rfl rfl
theorem TS_X10_foretell : Cond.selects RX10 yX10_foretell yX10_foretell ∈ TB := tbm5 (i := 80) rfl rfl
theorem TC_X10_foretell : Cond.code yX10_foretell cX10_foretell 3 (some .int) ∈ TB := tbm5 (i := 81) rfl rfl
theorem TM_X10_210 : Cond.methodLink RX10 210 yX10_foretold ∈ TB := tbm5 (i := 82) rfl rfl
theorem TI_X10_foretold : Cond.instanceMethod yX10_foretold ∈ TB := tbm5 (i := 84) rfl rfl
theorem TC_X10_foretold : Cond.code yX10_foretold cX10_foretold 5 (some .int) ∈ TB := tbm5 (i := 85) rfl rfl
theorem TM_X10_196 : Cond.methodLink RX10 196 yX10_byGains ∈ TB := tbm5 (i := 86) rfl rfl
theorem TI_X10_byGains : Cond.instanceMethod yX10_byGains ∈ TB := tbm5 (i := 88) rfl rfl
theorem TC_X10_byGains : Cond.code yX10_byGains cX10_byGains 4 (some .boolean) ∈ TB := tbm5 (i := 89) rfl rfl
theorem TM_X10_179 : Cond.methodLink RX10 179 yX10_isGain ∈ TB := tbm5 (i := 90) rfl rfl
theorem TI_X10_isGain : Cond.instanceMethod yX10_isGain ∈ TB := tbm5 (i := 92) rfl rfl
theorem TC_X10_isGain : Cond.code yX10_isGain cX10_isGain 3 (some .boolean) ∈ TB := tbm5 (i := 93) rfl rfl
theorem TM_X10_199 : Cond.methodLink RX10 199 yX10_line ∈ TB := tbm5 (i := 94) rfl rfl
theorem TI_X10_line : Cond.instanceMethod yX10_line ∈ TB := tbm5 (i := 96) rfl rfl
theorem TC_X10_line : Cond.code yX10_line cX10_line 16 none ∈ TB := tbm5 (i := 97) rfl rfl
theorem TM_X10_192 : Cond.methodLink RX10 192 yX10_downwards ∈ TB := tbm5 (i := 98) rfl rfl
theorem TT_X10_downwards : Cond.static yX10_downwards ∈ TB := tbm5 (i := 99) rfl rfl
theorem TC_X10_downwards : Cond.code yX10_downwards cX10_downwards 4 (some .long) ∈ TB := tbm5 (i := 100) rfl rfl
theorem TK_X10_203 : Cond.constant RX10 203 (2000000000) ∈ TB := tbm5 (i := 101) rfl rfl
theorem TK_X10_204 : Cond.constantLong RX10 204 (1000000000) ∈ TB := tbm5 (i := 102) rfl rfl
theorem TK_X10_206 : Cond.constant RX10 206 (1000000000) ∈ TB := tbm5 (i := 103) rfl rfl
theorem TK_X10_207 : Cond.constantLong RX10 207 (-1000000000) ∈ TB := tbm5 (i := 104) rfl rfl
theorem TK_X10_209 : Cond.constant RX10 209 (-1000000000) ∈ TB := tbm5 (i := 105) rfl rfl
theorem TM_L_103 : Cond.methodLink RL 103 yX10_slope ∈ TB := tbm5 (i := 106) rfl rfl
theorem TI_X10_slope : Cond.instanceMethod yX10_slope ∈ TB := tbm5 (i := 107) rfl rfl
theorem TS_X10_slope : Cond.selects RX10 yX10_slope yX10_slope ∈ TB := tbm5 (i := 108) rfl rfl
theorem TC_X10_slope : Cond.code yX10_slope cX10_slope 8 (some .int) ∈ TB := tbm5 (i := 109) rfl rfl
theorem TM_X10_222 : Cond.methodLink RX10 222 yX10_common ∈ TB := tbm5 (i := 110) rfl rfl
theorem TT_X10_common : Cond.static yX10_common ∈ TB := tbm5 (i := 111) rfl rfl
theorem TC_X10_common : Cond.code yX10_common cX10_common 4 (some .long) ∈ TB := tbm5 (i := 112) rfl rfl
theorem TM_L_107 : Cond.methodLink RL 107 yX10_weight ∈ TB := tbm5 (i := 113) rfl rfl
theorem TI_X10_weight : Cond.instanceMethod yX10_weight ∈ TB := tbm5 (i := 114) rfl rfl
theorem TS_X10_weight : Cond.selects RX10 yX10_weight yX10_weight ∈ TB := tbm5 (i := 115) rfl rfl
theorem TC_X10_weight : Cond.code yX10_weight cX10_weight 3 (some .int) ∈ TB := tbm5 (i := 116) rfl rfl
theorem TM_X10_225 : Cond.methodLink RX10 225 yX10_full ∈ TB := tbm5 (i := 117) rfl rfl
theorem TI_X10_full : Cond.instanceMethod yX10_full ∈ TB := tbm5 (i := 119) rfl rfl
theorem TC_X10_full : Cond.code yX10_full cX10_full 7 (some .int) ∈ TB := tbm5 (i := 120) rfl rfl
theorem TM_X10_214 : Cond.methodLink RX10 214 yX10_isMissed ∈ TB := tbm5 (i := 121) rfl rfl
theorem TI_X10_isMissed : Cond.instanceMethod yX10_isMissed ∈ TB := tbm5 (i := 123) rfl rfl
theorem TC_X10_isMissed : Cond.code yX10_isMissed cX10_isMissed 3 (some .boolean) ∈ TB := tbm5 (i := 124) rfl rfl
theorem TK_X10_217 : Cond.constantLong RX10 217 (1000000) ∈ TB := tbm5 (i := 125) rfl rfl
theorem TM_L_87 : Cond.methodLink RL 87 yX10_close ∈ TB := tbm5 (i := 126) rfl rfl
theorem TI_X10_close : Cond.instanceMethod yX10_close ∈ TB := tbm5 (i := 127) rfl rfl
theorem TS_X10_close : Cond.selects RX10 yX10_close yX10_close ∈ TB := tbm5 (i := 128) rfl rfl
theorem TC_X10_close : Cond.code yX10_close cX10_close 4 (some .int) ∈ TB := tbm5 (i := 129) rfl rfl
theorem TM_X10_228 : Cond.methodLink RX10 228 yX10_root ∈ TB := tbm5 (i := 130) rfl rfl
theorem TI_X10_root : Cond.instanceMethod yX10_root ∈ TB := tbm5 (i := 132) rfl rfl
theorem TC_X10_root : Cond.code yX10_root cX10_root 3 (some .int) ∈ TB := tbm5 (i := 133) rfl rfl
theorem TM_X10_232 : Cond.methodLink RX10 232 yX10_closes ∈ TB := tbm5 (i := 134) rfl rfl
theorem TI_X10_closes : Cond.instanceMethod yX10_closes ∈ TB := tbm5 (i := 136) rfl rfl
theorem TC_X10_closes : Cond.code yX10_closes cX10_closes 17 (some .int) ∈ TB := tbm5 (i := 137) rfl rfl
theorem TK_X10_238 : Cond.constantLong RX10 238 (100) ∈ TB := tbm5 (i := 138) rfl rfl
theorem TK_X10_240 : Cond.constantLong RX10 240 (30000) ∈ TB := tbm5 (i := 139) rfl rfl
theorem TK_X10_242 : Cond.constantLong RX10 242 (-30000) ∈ TB := tbm5 (i := 140) rfl rfl
theorem TM_X10_244 : Cond.methodLink RX10 244 yX10_looks ∈ TB := tbm5 (i := 141) rfl rfl
theorem TI_X10_looks : Cond.instanceMethod yX10_looks ∈ TB := tbm5 (i := 143) rfl rfl
theorem TC_X10_looks : Cond.code yX10_looks cX10_looks 11 none ∈ TB := tbm5 (i := 144) rfl rfl
theorem TM_X10_248 : Cond.methodLink RX10 248 yX10_amount ∈ TB := tbm5 (i := 145) rfl rfl
theorem TT_X10_amount : Cond.static yX10_amount ∈ TB := tbm5 (i := 146) rfl rfl
theorem TC_X10_amount : Cond.code yX10_amount cX10_amount 1 (some .int) ∈ TB := tbm5 (i := 147) rfl rfl
theorem TM_X10_251 : Cond.methodLink RX10 251 yX10_steps ∈ TB := tbm5 (i := 148) rfl rfl
theorem TI_X10_steps : Cond.instanceMethod yX10_steps ∈ TB := tbm5 (i := 150) rfl rfl
theorem TC_X10_steps : Cond.code yX10_steps cX10_steps 3 none ∈ TB := tbm5 (i := 151) rfl rfl
theorem TM_L_91 : Cond.methodLink RL 91 yX10_hour ∈ TB := tbm5 (i := 152) rfl rfl
theorem TI_X10_hour : Cond.instanceMethod yX10_hour ∈ TB := tbm5 (i := 153) rfl rfl
theorem TS_X10_hour : Cond.selects RX10 yX10_hour yX10_hour ∈ TB := tbm5 (i := 154) rfl rfl
theorem TC_X10_hour : Cond.code yX10_hour cX10_hour 1 (some .int) ∈ TB := tbm5 (i := 155) rfl rfl
theorem TM_L_111 : Cond.methodLink RL 111 yX10_as ∈ TB := tbm5 (i := 156) rfl rfl
theorem TI_X10_as : Cond.instanceMethod yX10_as ∈ TB := tbm5 (i := 157) rfl rfl
theorem TS_X10_as : Cond.selects RX10 yX10_as yX10_as ∈ TB := tbm5 (i := 158) rfl rfl
theorem TC_X10_as : Cond.code yX10_as cX10_as 5 (some .int) ∈ TB := tbm5 (i := 159) rfl rfl
theorem TM_L_115 : Cond.methodLink RL 115 yX10_paper ∈ TB := tbm5 (i := 160) rfl rfl
theorem TI_X10_paper : Cond.instanceMethod yX10_paper ∈ TB := tbm5 (i := 161) rfl rfl
theorem TS_X10_paper : Cond.selects RX10 yX10_paper yX10_paper ∈ TB := tbm5 (i := 162) rfl rfl
theorem TC_X10_paper : Cond.code yX10_paper cX10_paper 3 (some .int) ∈ TB := tbm5 (i := 163) rfl rfl
theorem TM_L_119 : Cond.methodLink RL 119 yX10_step ∈ TB := tbm5 (i := 164) rfl rfl
theorem TI_X10_step : Cond.instanceMethod yX10_step ∈ TB := tbm5 (i := 165) rfl rfl
theorem TS_X10_step : Cond.selects RX10 yX10_step yX10_step ∈ TB := tbm5 (i := 166) rfl rfl
theorem TC_X10_step : Cond.code yX10_step cX10_step 3 (some .int) ∈ TB := tbm5 (i := 167) rfl rfl
theorem TM_L_124 : Cond.methodLink RL 124 yX10_show ∈ TB := tbm5 (i := 168) rfl rfl
theorem TI_X10_show : Cond.instanceMethod yX10_show ∈ TB := tbm5 (i := 169) rfl rfl
theorem TS_X10_show : Cond.selects RX10 yX10_show yX10_show ∈ TB := tbm5 (i := 170) rfl rfl
theorem TC_X10_show : Cond.code yX10_show cX10_show 2 (some .boolean) ∈ TB := tbm5 (i := 171) rfl rfl
theorem TK_X10_256 : Cond.constant RX10 256 (-1000000) ∈ TB := tbm5 (i := 172) rfl rfl
theorem TM_L_128 : Cond.methodLink RL 128 yX10_off ∈ TB := tbm5 (i := 173) rfl rfl
theorem TI_X10_off : Cond.instanceMethod yX10_off ∈ TB := tbm5 (i := 174) rfl rfl
theorem TS_X10_off : Cond.selects RX10 yX10_off yX10_off ∈ TB := tbm5 (i := 175) rfl rfl
theorem TC_X10_off : Cond.code yX10_off cX10_off 1 (some .int) ∈ TB := tbm5 (i := 176) rfl rfl
theorem TM_L_132 : Cond.methodLink RL 132 yX10_ring ∈ TB := tbm5 (i := 177) rfl rfl
theorem TI_X10_ring : Cond.instanceMethod yX10_ring ∈ TB := tbm5 (i := 178) rfl rfl
theorem TS_X10_ring : Cond.selects RX10 yX10_ring yX10_ring ∈ TB := tbm5 (i := 179) rfl rfl
theorem TC_X10_ring : Cond.code yX10_ring cX10_ring 8 (some .int) ∈ TB := tbm5 (i := 180) rfl rfl
theorem TM_X10_257 : Cond.methodLink RX10 257 yX10_direct ∈ TB := tbm5 (i := 181) rfl rfl
theorem TI_X10_direct : Cond.instanceMethod yX10_direct ∈ TB := tbm5 (i := 183) rfl rfl
theorem TC_X10_direct : Cond.code yX10_direct cX10_direct 5 (some .int) ∈ TB := tbm5 (i := 184) rfl rfl
theorem nst_X5_30 : Cond.methodLinkNest RX5 30 yX4_init "TimeBench" ∈ lw_tbl := tbi1 (i := 98) rfl
theorem nst_X9_25 : Cond.methodLinkNest RX9 25 yX6_init "TimeBench" ∈ lw_tbl := tbi1 (i := 157) rfl
theorem nst_X2_11 : Cond.methodLinkNest RX2 11 yX3_init "TimeBench" ∈ lw_tbl := tbi1 (i := 210) rfl
theorem nst_X5_35 : Cond.methodLinkNest RX5 35 yX9_isClockKind "TimeBench" ∈ lw_tbl := tbi2 (i := 118) rfl
theorem nst_X5_39 : Cond.methodLinkNest RX5 39 yX9_isLinkKind "TimeBench" ∈ lw_tbl := tbi2 (i := 144) rfl
theorem nst_X2_84 : Cond.methodLinkNest RX2 84 yX9_cut "TimeBench" ∈ lw_tbl := tbi3 (i := 110) rfl
theorem nst_X1_134 : Cond.methodLinkNest RX1 134 yX9_cut "TimeBench" ∈ lw_tbl := tbi3 (i := 163) rfl
theorem uin_X0 : ∀ w ∈ u_ws RX0 TX0 12, w ∈ TB := by
  intro w hw
  obtain ⟨k, hk, rfl⟩ := List.mem_map.mp hw
  have hk : k < 12 := List.mem_range.mp hk
  match k, hk with
  | 0, _ => exact tbm1 (i := 71) rfl rfl
  | 1, _ => exact tbm1 (i := 73) rfl rfl
  | 2, _ => exact tbm1 (i := 75) rfl rfl
  | 3, _ => exact tbm1 (i := 77) rfl rfl
  | 4, _ => exact tbm1 (i := 79) rfl rfl
  | 5, _ => exact tbm1 (i := 81) rfl rfl
  | 6, _ => exact tbm1 (i := 83) rfl rfl
  | 7, _ => exact tbm1 (i := 85) rfl rfl
  | 8, _ => exact tbm1 (i := 87) rfl rfl
  | 9, _ => exact tbm1 (i := 89) rfl rfl
  | 10, _ => exact tbm1 (i := 91) rfl rfl
  | 11, _ => exact tbm1 (i := 93) rfl rfl
theorem uin_X1 : ∀ w ∈ u_ws RX1 TX1 7, w ∈ TB := by
  intro w hw
  obtain ⟨k, hk, rfl⟩ := List.mem_map.mp hw
  have hk : k < 7 := List.mem_range.mp hk
  match k, hk with
  | 0, _ => exact tbm2 (i := 25) rfl rfl
  | 1, _ => exact tbm2 (i := 27) rfl rfl
  | 2, _ => exact tbm2 (i := 29) rfl rfl
  | 3, _ => exact tbm2 (i := 31) rfl rfl
  | 4, _ => exact tbm2 (i := 33) rfl rfl
  | 5, _ => exact tbm2 (i := 35) rfl rfl
  | 6, _ => exact tbm2 (i := 37) rfl rfl
theorem uin_X2 : ∀ w ∈ u_ws RX2 TX2 7, w ∈ TB := by
  intro w hw
  obtain ⟨k, hk, rfl⟩ := List.mem_map.mp hw
  have hk : k < 7 := List.mem_range.mp hk
  match k, hk with
  | 0, _ => exact tbm1 (i := 237) rfl rfl
  | 1, _ => exact tbm1 (i := 239) rfl rfl
  | 2, _ => exact tbm2 (i := 1) rfl rfl
  | 3, _ => exact tbm2 (i := 3) rfl rfl
  | 4, _ => exact tbm2 (i := 5) rfl rfl
  | 5, _ => exact tbm2 (i := 7) rfl rfl
  | 6, _ => exact tbm2 (i := 9) rfl rfl
theorem uin_X3 : ∀ w ∈ u_ws RX3 TX3 5, w ∈ TB := by
  intro w hw
  obtain ⟨k, hk, rfl⟩ := List.mem_map.mp hw
  have hk : k < 5 := List.mem_range.mp hk
  match k, hk with
  | 0, _ => exact tbm1 (i := 219) rfl rfl
  | 1, _ => exact tbm1 (i := 221) rfl rfl
  | 2, _ => exact tbm1 (i := 223) rfl rfl
  | 3, _ => exact tbm1 (i := 225) rfl rfl
  | 4, _ => exact tbm1 (i := 227) rfl rfl
theorem uin_X4 : ∀ w ∈ u_ws RX4 TX4 6, w ∈ TB := by
  intro w hw
  obtain ⟨k, hk, rfl⟩ := List.mem_map.mp hw
  have hk : k < 6 := List.mem_range.mp hk
  match k, hk with
  | 0, _ => exact tbm1 (i := 113) rfl rfl
  | 1, _ => exact tbm1 (i := 115) rfl rfl
  | 2, _ => exact tbm1 (i := 117) rfl rfl
  | 3, _ => exact tbm1 (i := 119) rfl rfl
  | 4, _ => exact tbm1 (i := 121) rfl rfl
  | 5, _ => exact tbm1 (i := 123) rfl rfl
theorem uin_X5 : ∀ w ∈ u_ws RX5 TX5 3, w ∈ TB := by
  intro w hw
  obtain ⟨k, hk, rfl⟩ := List.mem_map.mp hw
  have hk : k < 3 := List.mem_range.mp hk
  match k, hk with
  | 0, _ => exact tbm1 (i := 129) rfl rfl
  | 1, _ => exact tbm1 (i := 131) rfl rfl
  | 2, _ => exact tbm1 (i := 133) rfl rfl
theorem uin_X6 : ∀ w ∈ u_ws RX6 TX6 4, w ∈ TB := by
  intro w hw
  obtain ⟨k, hk, rfl⟩ := List.mem_map.mp hw
  have hk : k < 4 := List.mem_range.mp hk
  match k, hk with
  | 0, _ => exact tbm1 (i := 165) rfl rfl
  | 1, _ => exact tbm1 (i := 167) rfl rfl
  | 2, _ => exact tbm1 (i := 169) rfl rfl
  | 3, _ => exact tbm1 (i := 171) rfl rfl
theorem uin_X7 : ∀ w ∈ u_ws RX7 TX7 2, w ∈ TB := by
  intro w hw
  obtain ⟨k, hk, rfl⟩ := List.mem_map.mp hw
  have hk : k < 2 := List.mem_range.mp hk
  match k, hk with
  | 0, _ => exact tbm1 (i := 150) rfl rfl
  | 1, _ => exact tbm1 (i := 152) rfl rfl
theorem uin_X8 : ∀ w ∈ u_ws RX8 TX8 7, w ∈ TB := by
  intro w hw
  obtain ⟨k, hk, rfl⟩ := List.mem_map.mp hw
  have hk : k < 7 := List.mem_range.mp hk
  match k, hk with
  | 0, _ => exact tbm1 (i := 187) rfl rfl
  | 1, _ => exact tbm1 (i := 189) rfl rfl
  | 2, _ => exact tbm1 (i := 191) rfl rfl
  | 3, _ => exact tbm1 (i := 193) rfl rfl
  | 4, _ => exact tbm1 (i := 195) rfl rfl
  | 5, _ => exact tbm1 (i := 197) rfl rfl
  | 6, _ => exact tbm1 (i := 199) rfl rfl
theorem uin_X9 : ∀ w ∈ u_ws RX9 TX9 13, w ∈ TB := by
  intro w hw
  obtain ⟨k, hk, rfl⟩ := List.mem_map.mp hw
  have hk : k < 13 := List.mem_range.mp hk
  match k, hk with
  | 0, _ => exact tbm2 (i := 53) rfl rfl
  | 1, _ => exact tbm2 (i := 55) rfl rfl
  | 2, _ => exact tbm2 (i := 57) rfl rfl
  | 3, _ => exact tbm2 (i := 59) rfl rfl
  | 4, _ => exact tbm2 (i := 61) rfl rfl
  | 5, _ => exact tbm2 (i := 63) rfl rfl
  | 6, _ => exact tbm2 (i := 65) rfl rfl
  | 7, _ => exact tbm2 (i := 67) rfl rfl
  | 8, _ => exact tbm2 (i := 69) rfl rfl
  | 9, _ => exact tbm2 (i := 71) rfl rfl
  | 10, _ => exact tbm2 (i := 73) rfl rfl
  | 11, _ => exact tbm2 (i := 75) rfl rfl
  | 12, _ => exact tbm2 (i := 77) rfl rfl
theorem uin_X10 : ∀ w ∈ u_ws RX10 TX10 49, w ∈ TB := by
  intro w hw
  obtain ⟨k, hk, rfl⟩ := List.mem_map.mp hw
  have hk : k < 49 := List.mem_range.mp hk
  match k, hk with
  | 0, _ => exact tbm4 (i := 108) rfl rfl
  | 1, _ => exact tbm4 (i := 110) rfl rfl
  | 2, _ => exact tbm4 (i := 112) rfl rfl
  | 3, _ => exact tbm4 (i := 114) rfl rfl
  | 4, _ => exact tbm4 (i := 116) rfl rfl
  | 5, _ => exact tbm4 (i := 118) rfl rfl
  | 6, _ => exact tbm4 (i := 120) rfl rfl
  | 7, _ => exact tbm4 (i := 122) rfl rfl
  | 8, _ => exact tbm4 (i := 124) rfl rfl
  | 9, _ => exact tbm4 (i := 126) rfl rfl
  | 10, _ => exact tbm4 (i := 128) rfl rfl
  | 11, _ => exact tbm4 (i := 130) rfl rfl
  | 12, _ => exact tbm4 (i := 132) rfl rfl
  | 13, _ => exact tbm4 (i := 134) rfl rfl
  | 14, _ => exact tbm4 (i := 136) rfl rfl
  | 15, _ => exact tbm4 (i := 138) rfl rfl
  | 16, _ => exact tbm4 (i := 140) rfl rfl
  | 17, _ => exact tbm4 (i := 142) rfl rfl
  | 18, _ => exact tbm4 (i := 144) rfl rfl
  | 19, _ => exact tbm4 (i := 146) rfl rfl
  | 20, _ => exact tbm4 (i := 148) rfl rfl
  | 21, _ => exact tbm4 (i := 150) rfl rfl
  | 22, _ => exact tbm4 (i := 152) rfl rfl
  | 23, _ => exact tbm4 (i := 154) rfl rfl
  | 24, _ => exact tbm4 (i := 156) rfl rfl
  | 25, _ => exact tbm4 (i := 158) rfl rfl
  | 26, _ => exact tbm4 (i := 160) rfl rfl
  | 27, _ => exact tbm4 (i := 162) rfl rfl
  | 28, _ => exact tbm4 (i := 164) rfl rfl
  | 29, _ => exact tbm4 (i := 166) rfl rfl
  | 30, _ => exact tbm4 (i := 168) rfl rfl
  | 31, _ => exact tbm4 (i := 170) rfl rfl
  | 32, _ => exact tbm4 (i := 172) rfl rfl
  | 33, _ => exact tbm4 (i := 174) rfl rfl
  | 34, _ => exact tbm4 (i := 176) rfl rfl
  | 35, _ => exact tbm4 (i := 178) rfl rfl
  | 36, _ => exact tbm4 (i := 180) rfl rfl
  | 37, _ => exact tbm4 (i := 182) rfl rfl
  | 38, _ => exact tbm4 (i := 184) rfl rfl
  | 39, _ => exact tbm4 (i := 186) rfl rfl
  | 40, _ => exact tbm4 (i := 188) rfl rfl
  | 41, _ => exact tbm4 (i := 190) rfl rfl
  | 42, _ => exact tbm4 (i := 192) rfl rfl
  | 43, _ => exact tbm4 (i := 194) rfl rfl
  | 44, _ => exact tbm4 (i := 196) rfl rfl
  | 45, _ => exact tbm4 (i := 198) rfl rfl
  | 46, _ => exact tbm4 (i := 200) rfl rfl
  | 47, _ => exact tbm4 (i := 202) rfl rfl
  | 48, _ => exact tbm4 (i := 204) rfl rfl
  | k + 49, hk => exact absurd hk (by omega)
