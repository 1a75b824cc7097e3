/-! words of the tables, by their places; the methods with their rooms; the classes -/
theorem fw_mem {w : Cond} (h : w ∈ tables_1) (hg : goodWord w = true) : w ∈ fw_U := List.mem_filter.mpr ⟨List.mem_append_right _ h, hg⟩
theorem fw_memS {q : MethodName × Nat} (h : q ∈ lw_privs) (hg : goodWord (Cond.selects q.1.cls q.1 q.1) = true) : Cond.selects q.1.cls q.1 q.1 ∈ fw_U := List.mem_filter.mpr ⟨List.mem_append_left _ (List.mem_map.mpr ⟨q, h, rfl⟩), hg⟩
theorem fw_memL {ws : List Cond} (ps : List Nat) (hp : ws = ps.filterMap (fun i => tables_1[i]?)) (hg : ws.all goodWord = true) : ∀ w ∈ ws, w ∈ fw_U := by
  intro w hw
  have h1 := List.all_eq_true.mp hg w hw
  rw [hp] at hw
  obtain ⟨i, -, hi⟩ := List.mem_filterMap.mp hw
  exact fw_mem (List.mem_of_getElem? hi) h1
theorem ini_L : Cond.initialized RL ∈ fw_U := fw_mem (List.mem_of_getElem? (i := 0) (by decide +kernel)) (by decide +kernel)
theorem ini_X7 : Cond.initialized RX7 ∈ fw_U := fw_mem (List.mem_of_getElem? (i := 1) (by decide +kernel)) (by decide +kernel)
theorem ini_X3 : Cond.initialized RX3 ∈ fw_U := fw_mem (List.mem_of_getElem? (i := 2) (by decide +kernel)) (by decide +kernel)
theorem ini_X2 : Cond.initialized RX2 ∈ fw_U := fw_mem (List.mem_of_getElem? (i := 3) (by decide +kernel)) (by decide +kernel)
theorem ini_X0 : Cond.initialized RX0 ∈ fw_U := fw_mem (List.mem_of_getElem? (i := 4) (by decide +kernel)) (by decide +kernel)
theorem ini_X6 : Cond.initialized RX6 ∈ fw_U := fw_mem (List.mem_of_getElem? (i := 5) (by decide +kernel)) (by decide +kernel)
theorem ini_X1 : Cond.initialized RX1 ∈ fw_U := fw_mem (List.mem_of_getElem? (i := 6) (by decide +kernel)) (by decide +kernel)
theorem ini_X4 : Cond.initialized RX4 ∈ fw_U := fw_mem (List.mem_of_getElem? (i := 7) (by decide +kernel)) (by decide +kernel)
theorem ini_X5 : Cond.initialized RX5 ∈ fw_U := fw_mem (List.mem_of_getElem? (i := 8) (by decide +kernel)) (by decide +kernel)
theorem j_L_11 : Cond.classLink RL 11 RX7 ∈ fw_U := fw_mem (List.mem_of_getElem? (i := 9) (by decide +kernel)) (by decide +kernel)
theorem in_X7 : Cond.instantiable RX7 7 ∈ fw_U := fw_mem (List.mem_of_getElem? (i := 10) (by decide +kernel)) (by decide +kernel)
theorem m_L_97 : Cond.methodLink RL 97 yX7_init ∈ fw_U := fw_mem (List.mem_of_getElem? (i := 11) (by decide +kernel)) (by decide +kernel)
theorem m_X7_3 : Cond.methodLink RX7 3 Lib.objectInit ∈ fw_U := fw_mem (List.mem_of_getElem? (i := 14) (by decide +kernel)) (by decide +kernel)
theorem j_X7_9 : Cond.classLink RX7 9 RX3 ∈ fw_U := fw_mem (List.mem_of_getElem? (i := 17) (by decide +kernel)) (by decide +kernel)
theorem in_X3 : Cond.instantiable RX3 10 ∈ fw_U := fw_mem (List.mem_of_getElem? (i := 18) (by decide +kernel)) (by decide +kernel)
theorem m_X7_11 : Cond.methodLink RX7 11 yX3_init ∈ fw_U := fw_mem (List.mem_of_getElem? (i := 19) (by decide +kernel)) (by decide +kernel)
theorem m_X3_3 : Cond.methodLink RX3 3 Lib.objectInit ∈ fw_U := fw_mem (List.mem_of_getElem? (i := 22) (by decide +kernel)) (by decide +kernel)
theorem j_X3_9 : Cond.classLink RX3 9 RX2 ∈ fw_U := fw_mem (List.mem_of_getElem? (i := 23) (by decide +kernel)) (by decide +kernel)
theorem in_X2 : Cond.instantiable RX2 7 ∈ fw_U := fw_mem (List.mem_of_getElem? (i := 25) (by decide +kernel)) (by decide +kernel)
theorem m_X3_17 : Cond.methodLink RX3 17 yX2_init ∈ fw_U := fw_mem (List.mem_of_getElem? (i := 26) (by decide +kernel)) (by decide +kernel)
theorem m_X2_3 : Cond.methodLink RX2 3 Lib.objectInit ∈ fw_U := fw_mem (List.mem_of_getElem? (i := 29) (by decide +kernel)) (by decide +kernel)
theorem j_X2_9 : Cond.classLink RX2 9 RX0 ∈ fw_U := fw_mem (List.mem_of_getElem? (i := 30) (by decide +kernel)) (by decide +kernel)
theorem in_X0 : Cond.instantiable RX0 4 ∈ fw_U := fw_mem (List.mem_of_getElem? (i := 32) (by decide +kernel)) (by decide +kernel)
theorem m_X0_1 : Cond.methodLink RX0 1 Lib.objectInit ∈ fw_U := fw_mem (List.mem_of_getElem? (i := 36) (by decide +kernel)) (by decide +kernel)
theorem l_X0_7 : Cond.fieldLink RX0 7 "SnakeTrades$Bite" "size" "I" ∈ fw_U := fw_mem (List.mem_of_getElem? (i := 37) (by decide +kernel)) (by decide +kernel)
theorem l_X2_35 : Cond.fieldLink RX2 35 "SnakeTrades$Bite" "size" "I" ∈ fw_U := fw_mem (List.mem_of_getElem? (i := 38) (by decide +kernel)) (by decide +kernel)
theorem l_X7_175 : Cond.fieldLink RX7 175 "SnakeTrades$Bite" "size" "I" ∈ fw_U := fw_mem (List.mem_of_getElem? (i := 39) (by decide +kernel)) (by decide +kernel)
theorem l_X3_147 : Cond.fieldLink RX3 147 "SnakeTrades$Bite" "size" "I" ∈ fw_U := fw_mem (List.mem_of_getElem? (i := 40) (by decide +kernel)) (by decide +kernel)
theorem l_X0_13 : Cond.fieldLink RX0 13 "SnakeTrades$Bite" "timesSold" "I" ∈ fw_U := fw_mem (List.mem_of_getElem? (i := 41) (by decide +kernel)) (by decide +kernel)
theorem l_X7_180 : Cond.fieldLink RX7 180 "SnakeTrades$Bite" "timesSold" "I" ∈ fw_U := fw_mem (List.mem_of_getElem? (i := 42) (by decide +kernel)) (by decide +kernel)
theorem l_X3_154 : Cond.fieldLink RX3 154 "SnakeTrades$Bite" "timesSold" "I" ∈ fw_U := fw_mem (List.mem_of_getElem? (i := 43) (by decide +kernel)) (by decide +kernel)
theorem l_X0_16 : Cond.fieldLink RX0 16 "SnakeTrades$Bite" "bitten" "I" ∈ fw_U := fw_mem (List.mem_of_getElem? (i := 44) (by decide +kernel)) (by decide +kernel)
theorem l_X7_183 : Cond.fieldLink RX7 183 "SnakeTrades$Bite" "bitten" "I" ∈ fw_U := fw_mem (List.mem_of_getElem? (i := 45) (by decide +kernel)) (by decide +kernel)
theorem l_X0_19 : Cond.fieldLink RX0 19 "SnakeTrades$Bite" "holders" "I" ∈ fw_U := fw_mem (List.mem_of_getElem? (i := 46) (by decide +kernel)) (by decide +kernel)
theorem l_X7_186 : Cond.fieldLink RX7 186 "SnakeTrades$Bite" "holders" "I" ∈ fw_U := fw_mem (List.mem_of_getElem? (i := 47) (by decide +kernel)) (by decide +kernel)
theorem l_X2_11 : Cond.fieldLink RX2 11 "SnakeTrades$Piece" "bites" "[LSnakeTrades$Bite;" ∈ fw_U := fw_mem (List.mem_of_getElem? (i := 57) (by decide +kernel)) (by decide +kernel)
theorem l_X2_28 : Cond.fieldLink RX2 28 "SnakeTrades$Piece" "held" "I" ∈ fw_U := fw_mem (List.mem_of_getElem? (i := 58) (by decide +kernel)) (by decide +kernel)
theorem l_X3_91 : Cond.fieldLink RX3 91 "SnakeTrades$Piece" "held" "I" ∈ fw_U := fw_mem (List.mem_of_getElem? (i := 59) (by decide +kernel)) (by decide +kernel)
theorem l_X7_153 : Cond.fieldLink RX7 153 "SnakeTrades$Piece" "held" "I" ∈ fw_U := fw_mem (List.mem_of_getElem? (i := 60) (by decide +kernel)) (by decide +kernel)
theorem l_X2_25 : Cond.fieldLink RX2 25 "SnakeTrades$Piece" "square" "I" ∈ fw_U := fw_mem (List.mem_of_getElem? (i := 61) (by decide +kernel)) (by decide +kernel)
theorem l_X3_82 : Cond.fieldLink RX3 82 "SnakeTrades$Piece" "square" "I" ∈ fw_U := fw_mem (List.mem_of_getElem? (i := 62) (by decide +kernel)) (by decide +kernel)
theorem l_X7_145 : Cond.fieldLink RX7 145 "SnakeTrades$Piece" "square" "I" ∈ fw_U := fw_mem (List.mem_of_getElem? (i := 63) (by decide +kernel)) (by decide +kernel)
theorem l_X2_18 : Cond.fieldLink RX2 18 "SnakeTrades$Piece" "coins" "I" ∈ fw_U := fw_mem (List.mem_of_getElem? (i := 64) (by decide +kernel)) (by decide +kernel)
theorem l_X3_94 : Cond.fieldLink RX3 94 "SnakeTrades$Piece" "coins" "I" ∈ fw_U := fw_mem (List.mem_of_getElem? (i := 65) (by decide +kernel)) (by decide +kernel)
theorem l_X7_150 : Cond.fieldLink RX7 150 "SnakeTrades$Piece" "coins" "I" ∈ fw_U := fw_mem (List.mem_of_getElem? (i := 66) (by decide +kernel)) (by decide +kernel)
theorem l_X2_22 : Cond.fieldLink RX2 22 "SnakeTrades$Piece" "place" "I" ∈ fw_U := fw_mem (List.mem_of_getElem? (i := 67) (by decide +kernel)) (by decide +kernel)
theorem l_X7_162 : Cond.fieldLink RX7 162 "SnakeTrades$Piece" "place" "I" ∈ fw_U := fw_mem (List.mem_of_getElem? (i := 68) (by decide +kernel)) (by decide +kernel)
theorem l_X3_112 : Cond.fieldLink RX3 112 "SnakeTrades$Piece" "place" "I" ∈ fw_U := fw_mem (List.mem_of_getElem? (i := 69) (by decide +kernel)) (by decide +kernel)
theorem l_X2_48 : Cond.fieldLink RX2 48 "SnakeTrades$Piece" "timesBitten" "I" ∈ fw_U := fw_mem (List.mem_of_getElem? (i := 70) (by decide +kernel)) (by decide +kernel)
theorem l_X7_165 : Cond.fieldLink RX7 165 "SnakeTrades$Piece" "timesBitten" "I" ∈ fw_U := fw_mem (List.mem_of_getElem? (i := 71) (by decide +kernel)) (by decide +kernel)
theorem l_X3_144 : Cond.fieldLink RX3 144 "SnakeTrades$Piece" "timesBitten" "I" ∈ fw_U := fw_mem (List.mem_of_getElem? (i := 72) (by decide +kernel)) (by decide +kernel)
theorem l_X2_45 : Cond.fieldLink RX2 45 "SnakeTrades$Piece" "movedBack" "I" ∈ fw_U := fw_mem (List.mem_of_getElem? (i := 73) (by decide +kernel)) (by decide +kernel)
theorem l_X7_168 : Cond.fieldLink RX7 168 "SnakeTrades$Piece" "movedBack" "I" ∈ fw_U := fw_mem (List.mem_of_getElem? (i := 74) (by decide +kernel)) (by decide +kernel)
theorem j_X3_18 : Cond.classLink RX3 18 RX6 ∈ fw_U := fw_mem (List.mem_of_getElem? (i := 90) (by decide +kernel)) (by decide +kernel)
theorem in_X6 : Cond.instantiable RX6 4 ∈ fw_U := fw_mem (List.mem_of_getElem? (i := 92) (by decide +kernel)) (by decide +kernel)
theorem m_X6_1 : Cond.methodLink RX6 1 Lib.objectInit ∈ fw_U := fw_mem (List.mem_of_getElem? (i := 96) (by decide +kernel)) (by decide +kernel)
theorem l_X6_7 : Cond.fieldLink RX6 7 "SnakeTrades$Snake" "head" "I" ∈ fw_U := fw_mem (List.mem_of_getElem? (i := 97) (by decide +kernel)) (by decide +kernel)
theorem l_X5_62 : Cond.fieldLink RX5 62 "SnakeTrades$Snake" "head" "I" ∈ fw_U := fw_mem (List.mem_of_getElem? (i := 98) (by decide +kernel)) (by decide +kernel)
theorem l_X3_76 : Cond.fieldLink RX3 76 "SnakeTrades$Snake" "head" "I" ∈ fw_U := fw_mem (List.mem_of_getElem? (i := 99) (by decide +kernel)) (by decide +kernel)
theorem l_X7_189 : Cond.fieldLink RX7 189 "SnakeTrades$Snake" "head" "I" ∈ fw_U := fw_mem (List.mem_of_getElem? (i := 100) (by decide +kernel)) (by decide +kernel)
theorem l_X6_13 : Cond.fieldLink RX6 13 "SnakeTrades$Snake" "tail" "I" ∈ fw_U := fw_mem (List.mem_of_getElem? (i := 101) (by decide +kernel)) (by decide +kernel)
theorem l_X5_57 : Cond.fieldLink RX5 57 "SnakeTrades$Snake" "tail" "I" ∈ fw_U := fw_mem (List.mem_of_getElem? (i := 102) (by decide +kernel)) (by decide +kernel)
theorem l_X3_79 : Cond.fieldLink RX3 79 "SnakeTrades$Snake" "tail" "I" ∈ fw_U := fw_mem (List.mem_of_getElem? (i := 103) (by decide +kernel)) (by decide +kernel)
theorem l_X7_192 : Cond.fieldLink RX7 192 "SnakeTrades$Snake" "tail" "I" ∈ fw_U := fw_mem (List.mem_of_getElem? (i := 104) (by decide +kernel)) (by decide +kernel)
theorem l_X6_16 : Cond.fieldLink RX6 16 "SnakeTrades$Snake" "sleep" "I" ∈ fw_U := fw_mem (List.mem_of_getElem? (i := 105) (by decide +kernel)) (by decide +kernel)
theorem l_X7_76 : Cond.fieldLink RX7 76 "SnakeTrades$Snake" "sleep" "I" ∈ fw_U := fw_mem (List.mem_of_getElem? (i := 106) (by decide +kernel)) (by decide +kernel)
theorem l_X3_125 : Cond.fieldLink RX3 125 "SnakeTrades$Snake" "sleep" "I" ∈ fw_U := fw_mem (List.mem_of_getElem? (i := 107) (by decide +kernel)) (by decide +kernel)
theorem l_X6_19 : Cond.fieldLink RX6 19 "SnakeTrades$Snake" "timesBiting" "I" ∈ fw_U := fw_mem (List.mem_of_getElem? (i := 108) (by decide +kernel)) (by decide +kernel)
theorem l_X7_195 : Cond.fieldLink RX7 195 "SnakeTrades$Snake" "timesBiting" "I" ∈ fw_U := fw_mem (List.mem_of_getElem? (i := 109) (by decide +kernel)) (by decide +kernel)
theorem l_X3_141 : Cond.fieldLink RX3 141 "SnakeTrades$Snake" "timesBiting" "I" ∈ fw_U := fw_mem (List.mem_of_getElem? (i := 110) (by decide +kernel)) (by decide +kernel)
theorem l_X3_11 : Cond.fieldLink RX3 11 "SnakeTrades$Race" "pieces" "[LSnakeTrades$Piece;" ∈ fw_U := fw_mem (List.mem_of_getElem? (i := 120) (by decide +kernel)) (by decide +kernel)
theorem l_X3_20 : Cond.fieldLink RX3 20 "SnakeTrades$Race" "snakes" "[LSnakeTrades$Snake;" ∈ fw_U := fw_mem (List.mem_of_getElem? (i := 121) (by decide +kernel)) (by decide +kernel)
theorem l_X3_25 : Cond.fieldLink RX3 25 "SnakeTrades$Race" "sleepSetting" "I" ∈ fw_U := fw_mem (List.mem_of_getElem? (i := 122) (by decide +kernel)) (by decide +kernel)
theorem l_X3_29 : Cond.fieldLink RX3 29 "SnakeTrades$Race" "limitSetting" "I" ∈ fw_U := fw_mem (List.mem_of_getElem? (i := 123) (by decide +kernel)) (by decide +kernel)
theorem l_X3_32 : Cond.fieldLink RX3 32 "SnakeTrades$Race" "tradesSetting" "I" ∈ fw_U := fw_mem (List.mem_of_getElem? (i := 124) (by decide +kernel)) (by decide +kernel)
theorem l_X3_50 : Cond.fieldLink RX3 50 "SnakeTrades$Race" "mover" "I" ∈ fw_U := fw_mem (List.mem_of_getElem? (i := 125) (by decide +kernel)) (by decide +kernel)
theorem l_X7_204 : Cond.fieldLink RX7 204 "SnakeTrades$Race" "mover" "I" ∈ fw_U := fw_mem (List.mem_of_getElem? (i := 126) (by decide +kernel)) (by decide +kernel)
theorem l_X3_53 : Cond.fieldLink RX3 53 "SnakeTrades$Race" "turns" "I" ∈ fw_U := fw_mem (List.mem_of_getElem? (i := 127) (by decide +kernel)) (by decide +kernel)
theorem l_X7_138 : Cond.fieldLink RX7 138 "SnakeTrades$Race" "turns" "I" ∈ fw_U := fw_mem (List.mem_of_getElem? (i := 128) (by decide +kernel)) (by decide +kernel)
theorem l_X3_56 : Cond.fieldLink RX3 56 "SnakeTrades$Race" "arrived" "I" ∈ fw_U := fw_mem (List.mem_of_getElem? (i := 129) (by decide +kernel)) (by decide +kernel)
theorem l_X3_59 : Cond.fieldLink RX3 59 "SnakeTrades$Race" "bitesSoFar" "I" ∈ fw_U := fw_mem (List.mem_of_getElem? (i := 130) (by decide +kernel)) (by decide +kernel)
theorem l_X7_216 : Cond.fieldLink RX7 216 "SnakeTrades$Race" "bitesSoFar" "I" ∈ fw_U := fw_mem (List.mem_of_getElem? (i := 131) (by decide +kernel)) (by decide +kernel)
theorem l_X3_62 : Cond.fieldLink RX3 62 "SnakeTrades$Race" "salesSoFar" "I" ∈ fw_U := fw_mem (List.mem_of_getElem? (i := 132) (by decide +kernel)) (by decide +kernel)
theorem l_X7_219 : Cond.fieldLink RX7 219 "SnakeTrades$Race" "salesSoFar" "I" ∈ fw_U := fw_mem (List.mem_of_getElem? (i := 133) (by decide +kernel)) (by decide +kernel)
theorem j_X7_22 : Cond.classLink RX7 22 RX1 ∈ fw_U := fw_mem (List.mem_of_getElem? (i := 155) (by decide +kernel)) (by decide +kernel)
theorem in_X1 : Cond.instantiable RX1 2 ∈ fw_U := fw_mem (List.mem_of_getElem? (i := 156) (by decide +kernel)) (by decide +kernel)
theorem m_X7_24 : Cond.methodLink RX7 24 yX1_init ∈ fw_U := fw_mem (List.mem_of_getElem? (i := 157) (by decide +kernel)) (by decide +kernel)
theorem m_X1_3 : Cond.methodLink RX1 3 Lib.objectInit ∈ fw_U := fw_mem (List.mem_of_getElem? (i := 160) (by decide +kernel)) (by decide +kernel)
theorem j_X1_9 : Cond.classLink RX1 9 RX3 ∈ fw_U := fw_mem (List.mem_of_getElem? (i := 161) (by decide +kernel)) (by decide +kernel)
theorem m_X1_17 : Cond.methodLink RX1 17 yX3_init ∈ fw_U := fw_mem (List.mem_of_getElem? (i := 163) (by decide +kernel)) (by decide +kernel)
theorem l_X1_11 : Cond.fieldLink RX1 11 "SnakeTrades$Past" "states" "[LSnakeTrades$Race;" ∈ fw_U := fw_mem (List.mem_of_getElem? (i := 164) (by decide +kernel)) (by decide +kernel)
theorem l_X1_18 : Cond.fieldLink RX1 18 "SnakeTrades$Past" "held" "I" ∈ fw_U := fw_mem (List.mem_of_getElem? (i := 165) (by decide +kernel)) (by decide +kernel)
theorem l_X7_225 : Cond.fieldLink RX7 225 "SnakeTrades$Past" "held" "I" ∈ fw_U := fw_mem (List.mem_of_getElem? (i := 166) (by decide +kernel)) (by decide +kernel)
theorem j_X7_29 : Cond.classLink RX7 29 RX4 ∈ fw_U := fw_mem (List.mem_of_getElem? (i := 172) (by decide +kernel)) (by decide +kernel)
theorem in_X4 : Cond.instantiable RX4 2 ∈ fw_U := fw_mem (List.mem_of_getElem? (i := 173) (by decide +kernel)) (by decide +kernel)
theorem m_X7_31 : Cond.methodLink RX7 31 yX4_init ∈ fw_U := fw_mem (List.mem_of_getElem? (i := 174) (by decide +kernel)) (by decide +kernel)
theorem m_X4_3 : Cond.methodLink RX4 3 Lib.objectInit ∈ fw_U := fw_mem (List.mem_of_getElem? (i := 177) (by decide +kernel)) (by decide +kernel)
theorem l_X4_9 : Cond.fieldLink RX4 9 "SnakeTrades$Script" "signs" "[I" ∈ fw_U := fw_mem (List.mem_of_getElem? (i := 178) (by decide +kernel)) (by decide +kernel)
theorem l_X7_122 : Cond.fieldLink RX7 122 "SnakeTrades$Script" "length" "I" ∈ fw_U := fw_mem (List.mem_of_getElem? (i := 179) (by decide +kernel)) (by decide +kernel)
theorem ac_int : Cond.arrayClass .int ∈ fw_U := fw_mem (List.mem_of_getElem? (i := 185) (by decide +kernel)) (by decide +kernel)
theorem j_X7_36 : Cond.classLink RX7 36 RX5 ∈ fw_U := fw_mem (List.mem_of_getElem? (i := 186) (by decide +kernel)) (by decide +kernel)
theorem in_X5 : Cond.instantiable RX5 3 ∈ fw_U := fw_mem (List.mem_of_getElem? (i := 187) (by decide +kernel)) (by decide +kernel)
theorem m_X7_38 : Cond.methodLink RX7 38 yX5_init ∈ fw_U := fw_mem (List.mem_of_getElem? (i := 188) (by decide +kernel)) (by decide +kernel)
theorem m_X5_3 : Cond.methodLink RX5 3 Lib.objectInit ∈ fw_U := fw_mem (List.mem_of_getElem? (i := 191) (by decide +kernel)) (by decide +kernel)
theorem l_X5_9 : Cond.fieldLink RX5 9 "SnakeTrades$Search" "throwsTo" "[I" ∈ fw_U := fw_mem (List.mem_of_getElem? (i := 192) (by decide +kernel)) (by decide +kernel)
theorem l_X5_15 : Cond.fieldLink RX5 15 "SnakeTrades$Search" "queue" "[I" ∈ fw_U := fw_mem (List.mem_of_getElem? (i := 193) (by decide +kernel)) (by decide +kernel)
theorem l_X5_22 : Cond.fieldLink RX5 22 "SnakeTrades$Search" "queued" "I" ∈ fw_U := fw_mem (List.mem_of_getElem? (i := 194) (by decide +kernel)) (by decide +kernel)
theorem l_X7_12 : Cond.fieldLink RX7 12 "SnakeTrades" "race" "LSnakeTrades$Race;" ∈ fw_U := fw_mem (List.mem_of_getElem? (i := 202) (by decide +kernel)) (by decide +kernel)
theorem l_X7_16 : Cond.fieldLink RX7 16 "SnakeTrades" "trial" "LSnakeTrades$Race;" ∈ fw_U := fw_mem (List.mem_of_getElem? (i := 203) (by decide +kernel)) (by decide +kernel)
theorem l_X7_19 : Cond.fieldLink RX7 19 "SnakeTrades" "snapshot" "LSnakeTrades$Race;" ∈ fw_U := fw_mem (List.mem_of_getElem? (i := 204) (by decide +kernel)) (by decide +kernel)
theorem l_X7_25 : Cond.fieldLink RX7 25 "SnakeTrades" "past" "LSnakeTrades$Past;" ∈ fw_U := fw_mem (List.mem_of_getElem? (i := 205) (by decide +kernel)) (by decide +kernel)
theorem l_X7_32 : Cond.fieldLink RX7 32 "SnakeTrades" "script" "LSnakeTrades$Script;" ∈ fw_U := fw_mem (List.mem_of_getElem? (i := 206) (by decide +kernel)) (by decide +kernel)
theorem l_X7_39 : Cond.fieldLink RX7 39 "SnakeTrades" "search" "LSnakeTrades$Search;" ∈ fw_U := fw_mem (List.mem_of_getElem? (i := 207) (by decide +kernel)) (by decide +kernel)
theorem l_X7_43 : Cond.fieldLink RX7 43 "SnakeTrades" "hasSnapshot" "Z" ∈ fw_U := fw_mem (List.mem_of_getElem? (i := 208) (by decide +kernel)) (by decide +kernel)
theorem m_L_38 : Cond.methodLink RL 38 yX7_count ∈ fw_U := fw_mem (List.mem_of_getElem? (i := 224) (by decide +kernel)) (by decide +kernel)
theorem m_X7_207 : Cond.methodLink RX7 207 yX3_playersInRace ∈ fw_U := fw_mem (List.mem_of_getElem? (i := 228) (by decide +kernel)) (by decide +kernel)
theorem m_X3_88 : Cond.methodLink RX3 88 yX3_isInRace ∈ fw_U := fw_mem (List.mem_of_getElem? (i := 232) (by decide +kernel)) (by decide +kernel)
theorem m_X3_35 : Cond.methodLink RX3 35 yX3_pieceOf ∈ fw_U := fw_mem (List.mem_of_getElem? (i := 236) (by decide +kernel)) (by decide +kernel)
theorem m_X3_85 : Cond.methodLink RX3 85 yX2_isInRace ∈ fw_U := fw_mem (List.mem_of_getElem? (i := 240) (by decide +kernel)) (by decide +kernel)
theorem m_X7_210 : Cond.methodLink RX7 210 yX3_snakesThere ∈ fw_U := fw_mem (List.mem_of_getElem? (i := 244) (by decide +kernel)) (by decide +kernel)
theorem m_X3_73 : Cond.methodLink RX3 73 yX3_snakeNumbered ∈ fw_U := fw_mem (List.mem_of_getElem? (i := 248) (by decide +kernel)) (by decide +kernel)
theorem m_X3_43 : Cond.methodLink RX3 43 yX3_placeOfSnake ∈ fw_U := fw_mem (List.mem_of_getElem? (i := 252) (by decide +kernel)) (by decide +kernel)
theorem m_X3_69 : Cond.methodLink RX3 69 yX6_isThere ∈ fw_U := fw_mem (List.mem_of_getElem? (i := 256) (by decide +kernel)) (by decide +kernel)
theorem m_X7_213 : Cond.methodLink RX7 213 yX3_bitesHeld ∈ fw_U := fw_mem (List.mem_of_getElem? (i := 260) (by decide +kernel)) (by decide +kernel)
theorem m_X7_222 : Cond.methodLink RX7 222 yX3_coinsOfAll ∈ fw_U := fw_mem (List.mem_of_getElem? (i := 264) (by decide +kernel)) (by decide +kernel)
theorem m_X7_113 : Cond.methodLink RX7 113 yX3_settingOf ∈ fw_U := fw_mem (List.mem_of_getElem? (i := 268) (by decide +kernel)) (by decide +kernel)
theorem m_L_35 : Cond.methodLink RL 35 yX7_fewest ∈ fw_U := fw_mem (List.mem_of_getElem? (i := 272) (by decide +kernel)) (by decide +kernel)
theorem m_X7_141 : Cond.methodLink RX7 141 yX3_pieceOf ∈ fw_U := fw_mem (List.mem_of_getElem? (i := 276) (by decide +kernel)) (by decide +kernel)
theorem m_X7_230 : Cond.methodLink RX7 230 yX2_isInRace ∈ fw_U := fw_mem (List.mem_of_getElem? (i := 277) (by decide +kernel)) (by decide +kernel)
theorem m_X7_159 : Cond.methodLink RX7 159 yX2_nextBeginning ∈ fw_U := fw_mem (List.mem_of_getElem? (i := 278) (by decide +kernel)) (by decide +kernel)
theorem m_X2_38 : Cond.methodLink RX2 38 yX2_sizesTogether ∈ fw_U := fw_mem (List.mem_of_getElem? (i := 282) (by decide +kernel)) (by decide +kernel)
theorem m_X2_31 : Cond.methodLink RX2 31 yX2_biteAt ∈ fw_U := fw_mem (List.mem_of_getElem? (i := 286) (by decide +kernel)) (by decide +kernel)
theorem m_X7_241 : Cond.methodLink RX7 241 yX5_onFrom ∈ fw_U := fw_mem (List.mem_of_getElem? (i := 290) (by decide +kernel)) (by decide +kernel)
theorem m_X5_18 : Cond.methodLink RX5 18 yX5_start ∈ fw_U := fw_mem (List.mem_of_getElem? (i := 294) (by decide +kernel)) (by decide +kernel)
theorem m_X5_39 : Cond.methodLink RX5 39 yX5_see ∈ fw_U := fw_mem (List.mem_of_getElem? (i := 298) (by decide +kernel)) (by decide +kernel)
theorem m_X5_26 : Cond.methodLink RX5 26 yX5_throwsAt ∈ fw_U := fw_mem (List.mem_of_getElem? (i := 302) (by decide +kernel)) (by decide +kernel)
theorem m_X5_34 : Cond.methodLink RX5 34 yX3_beginningAfter ∈ fw_U := fw_mem (List.mem_of_getElem? (i := 309) (by decide +kernel)) (by decide +kernel)
theorem m_X3_122 : Cond.methodLink RX3 122 yX3_numberOfHeadOn ∈ fw_U := fw_mem (List.mem_of_getElem? (i := 313) (by decide +kernel)) (by decide +kernel)
theorem m_X7_245 : Cond.methodLink RX7 245 yX5_backTo ∈ fw_U := fw_mem (List.mem_of_getElem? (i := 317) (by decide +kernel)) (by decide +kernel)
theorem m_X5_43 : Cond.methodLink RX5 43 yX5_seeLandingsThatLeadTo ∈ fw_U := fw_mem (List.mem_of_getElem? (i := 321) (by decide +kernel)) (by decide +kernel)
theorem m_X5_47 : Cond.methodLink RX5 47 yX3_numberOfHeadOn ∈ fw_U := fw_mem (List.mem_of_getElem? (i := 325) (by decide +kernel)) (by decide +kernel)
theorem m_X5_50 : Cond.methodLink RX5 50 yX5_seeSquaresBefore ∈ fw_U := fw_mem (List.mem_of_getElem? (i := 326) (by decide +kernel)) (by decide +kernel)
theorem m_X5_53 : Cond.methodLink RX5 53 yX3_snakeNumbered ∈ fw_U := fw_mem (List.mem_of_getElem? (i := 330) (by decide +kernel)) (by decide +kernel)
theorem m_L_102 : Cond.methodLink RL 102 yL_cell ∈ fw_U := fw_mem (List.mem_of_getElem? (i := 331) (by decide +kernel)) (by decide +kernel)
theorem cst_L_7 : Cond.constant RL 7 900847593 ∈ fw_U := fw_mem (List.mem_of_getElem? (i := 334) (by decide +kernel)) (by decide +kernel)
theorem cst_L_8 : Cond.constant RL 8 768189939 ∈ fw_U := fw_mem (List.mem_of_getElem? (i := 335) (by decide +kernel)) (by decide +kernel)
theorem m_L_64 : Cond.methodLink RL 64 yL_low ∈ fw_U := fw_mem (List.mem_of_getElem? (i := 336) (by decide +kernel)) (by decide +kernel)
theorem cst_L_9 : Cond.constant RL 9 2147483647 ∈ fw_U := fw_mem (List.mem_of_getElem? (i := 339) (by decide +kernel)) (by decide +kernel)
theorem m_L_98 : Cond.methodLink RL 98 yL_holds ∈ fw_U := fw_mem (List.mem_of_getElem? (i := 340) (by decide +kernel)) (by decide +kernel)
theorem m_L_10 : Cond.methodLink RL 10 yX7_player ∈ fw_U := fw_mem (List.mem_of_getElem? (i := 343) (by decide +kernel)) (by decide +kernel)
theorem m_X7_156 : Cond.methodLink RX7 156 yX2_sizesTogether ∈ fw_U := fw_mem (List.mem_of_getElem? (i := 347) (by decide +kernel)) (by decide +kernel)
theorem m_L_44 : Cond.methodLink RL 44 yL_isPlayer ∈ fw_U := fw_mem (List.mem_of_getElem? (i := 348) (by decide +kernel)) (by decide +kernel)
theorem m_L_16 : Cond.methodLink RL 16 yX7_bite ∈ fw_U := fw_mem (List.mem_of_getElem? (i := 351) (by decide +kernel)) (by decide +kernel)
theorem m_X7_171 : Cond.methodLink RX7 171 yX3_biteOf ∈ fw_U := fw_mem (List.mem_of_getElem? (i := 355) (by decide +kernel)) (by decide +kernel)
theorem m_X3_65 : Cond.methodLink RX3 65 yX2_biteAt ∈ fw_U := fw_mem (List.mem_of_getElem? (i := 359) (by decide +kernel)) (by decide +kernel)
theorem m_L_20 : Cond.methodLink RL 20 yL_ones ∈ fw_U := fw_mem (List.mem_of_getElem? (i := 360) (by decide +kernel)) (by decide +kernel)
theorem m_L_26 : Cond.methodLink RL 26 yX7_square ∈ fw_U := fw_mem (List.mem_of_getElem? (i := 363) (by decide +kernel)) (by decide +kernel)
theorem m_X7_198 : Cond.methodLink RX7 198 yX3_piecesOn ∈ fw_U := fw_mem (List.mem_of_getElem? (i := 367) (by decide +kernel)) (by decide +kernel)
theorem m_X7_51 : Cond.methodLink RX7 51 yX3_numberOfHeadOn ∈ fw_U := fw_mem (List.mem_of_getElem? (i := 371) (by decide +kernel)) (by decide +kernel)
theorem m_X7_201 : Cond.methodLink RX7 201 yX3_tailsOn ∈ fw_U := fw_mem (List.mem_of_getElem? (i := 372) (by decide +kernel)) (by decide +kernel)
theorem m_L_29 : Cond.methodLink RL 29 yX7_progress ∈ fw_U := fw_mem (List.mem_of_getElem? (i := 376) (by decide +kernel)) (by decide +kernel)
theorem cstd_X7_248 : Cond.constantDouble RX7 248 4633641066610819072 ∈ fw_U := fw_mem (List.mem_of_getElem? (i := 380) (by decide +kernel)) (by decide +kernel)
theorem cstd_L_33 : Cond.constantDouble RL 33 4633641066610819072 ∈ fw_U := fw_mem (List.mem_of_getElem? (i := 381) (by decide +kernel)) (by decide +kernel)
theorem m_L_41 : Cond.methodLink RL 41 yX7_dangers ∈ fw_U := fw_mem (List.mem_of_getElem? (i := 382) (by decide +kernel)) (by decide +kernel)
theorem m_X7_233 : Cond.methodLink RX7 233 yX7_landing ∈ fw_U := fw_mem (List.mem_of_getElem? (i := 386) (by decide +kernel)) (by decide +kernel)
theorem m_X7_237 : Cond.methodLink RX7 237 yX3_biterOf ∈ fw_U := fw_mem (List.mem_of_getElem? (i := 387) (by decide +kernel)) (by decide +kernel)
theorem m_X3_128 : Cond.methodLink RX3 128 yX3_piecesOn ∈ fw_U := fw_mem (List.mem_of_getElem? (i := 391) (by decide +kernel)) (by decide +kernel)
theorem m_L_48 : Cond.methodLink RL 48 yX7_snakeOf ∈ fw_U := fw_mem (List.mem_of_getElem? (i := 392) (by decide +kernel)) (by decide +kernel)
theorem m_X7_73 : Cond.methodLink RX7 73 yX3_snakeNumbered ∈ fw_U := fw_mem (List.mem_of_getElem? (i := 396) (by decide +kernel)) (by decide +kernel)
theorem m_L_84 : Cond.methodLink RL 84 yL_plays ∈ fw_U := fw_mem (List.mem_of_getElem? (i := 397) (by decide +kernel)) (by decide +kernel)
theorem m_L_54 : Cond.methodLink RL 54 yX7_nextHome ∈ fw_U := fw_mem (List.mem_of_getElem? (i := 400) (by decide +kernel)) (by decide +kernel)
theorem m_X7_90 : Cond.methodLink RX7 90 yX7_isDraw ∈ fw_U := fw_mem (List.mem_of_getElem? (i := 404) (by decide +kernel)) (by decide +kernel)
theorem cst_X7_250 : Cond.constant RX7 250 65535 ∈ fw_U := fw_mem (List.mem_of_getElem? (i := 407) (by decide +kernel)) (by decide +kernel)
theorem m_X7_83 : Cond.methodLink RX7 83 yX3_isOver ∈ fw_U := fw_mem (List.mem_of_getElem? (i := 408) (by decide +kernel)) (by decide +kernel)
theorem m_X7_135 : Cond.methodLink RX7 135 yX3_copyFrom ∈ fw_U := fw_mem (List.mem_of_getElem? (i := 412) (by decide +kernel)) (by decide +kernel)
theorem m_X3_39 : Cond.methodLink RX3 39 yX2_copyFrom ∈ fw_U := fw_mem (List.mem_of_getElem? (i := 416) (by decide +kernel)) (by decide +kernel)
theorem m_X2_51 : Cond.methodLink RX2 51 yX0_copyFrom ∈ fw_U := fw_mem (List.mem_of_getElem? (i := 420) (by decide +kernel)) (by decide +kernel)
theorem m_X3_47 : Cond.methodLink RX3 47 yX6_copyFrom ∈ fw_U := fw_mem (List.mem_of_getElem? (i := 424) (by decide +kernel)) (by decide +kernel)
theorem m_X7_94 : Cond.methodLink RX7 94 yX7_drawAfter ∈ fw_U := fw_mem (List.mem_of_getElem? (i := 428) (by decide +kernel)) (by decide +kernel)
theorem cst_X7_251 : Cond.constant RX7 251 65536 ∈ fw_U := fw_mem (List.mem_of_getElem? (i := 431) (by decide +kernel)) (by decide +kernel)
theorem m_X7_97 : Cond.methodLink RX7 97 yX7_throwOf ∈ fw_U := fw_mem (List.mem_of_getElem? (i := 432) (by decide +kernel)) (by decide +kernel)
theorem m_X7_87 : Cond.methodLink RX7 87 yX3_makeTurn ∈ fw_U := fw_mem (List.mem_of_getElem? (i := 435) (by decide +kernel)) (by decide +kernel)
theorem m_X3_97 : Cond.methodLink RX3 97 yX2_hurt ∈ fw_U := fw_mem (List.mem_of_getElem? (i := 439) (by decide +kernel)) (by decide +kernel)
theorem m_X2_42 : Cond.methodLink RX2 42 yX2_nextBeginning ∈ fw_U := fw_mem (List.mem_of_getElem? (i := 443) (by decide +kernel)) (by decide +kernel)
theorem m_X3_104 : Cond.methodLink RX3 104 yX3_biterOf ∈ fw_U := fw_mem (List.mem_of_getElem? (i := 445) (by decide +kernel)) (by decide +kernel)
theorem m_X3_108 : Cond.methodLink RX3 108 yX3_biteWith ∈ fw_U := fw_mem (List.mem_of_getElem? (i := 446) (by decide +kernel)) (by decide +kernel)
theorem m_X3_131 : Cond.methodLink RX3 131 yX2_newLast ∈ fw_U := fw_mem (List.mem_of_getElem? (i := 450) (by decide +kernel)) (by decide +kernel)
theorem m_X3_135 : Cond.methodLink RX3 135 yX0_begin ∈ fw_U := fw_mem (List.mem_of_getElem? (i := 454) (by decide +kernel)) (by decide +kernel)
theorem m_X3_115 : Cond.methodLink RX3 115 yX3_shortenSleeps ∈ fw_U := fw_mem (List.mem_of_getElem? (i := 458) (by decide +kernel)) (by decide +kernel)
theorem m_X3_118 : Cond.methodLink RX3 118 yX3_moverAfter ∈ fw_U := fw_mem (List.mem_of_getElem? (i := 462) (by decide +kernel)) (by decide +kernel)
theorem m_L_57 : Cond.methodLink RL 57 yX7_play ∈ fw_U := fw_mem (List.mem_of_getElem? (i := 466) (by decide +kernel)) (by decide +kernel)
theorem m_X7_63 : Cond.methodLink RX7 63 yX1_remember ∈ fw_U := fw_mem (List.mem_of_getElem? (i := 470) (by decide +kernel)) (by decide +kernel)
theorem m_X1_22 : Cond.methodLink RX1 22 yX1_dropOldest ∈ fw_U := fw_mem (List.mem_of_getElem? (i := 474) (by decide +kernel)) (by decide +kernel)
theorem m_X1_25 : Cond.methodLink RX1 25 yX1_stateAt ∈ fw_U := fw_mem (List.mem_of_getElem? (i := 478) (by decide +kernel)) (by decide +kernel)
theorem m_X1_29 : Cond.methodLink RX1 29 yX3_copyFrom ∈ fw_U := fw_mem (List.mem_of_getElem? (i := 482) (by decide +kernel)) (by decide +kernel)
theorem m_L_60 : Cond.methodLink RL 60 yX7_undo ∈ fw_U := fw_mem (List.mem_of_getElem? (i := 483) (by decide +kernel)) (by decide +kernel)
theorem m_X7_132 : Cond.methodLink RX7 132 yX1_bringBack ∈ fw_U := fw_mem (List.mem_of_getElem? (i := 487) (by decide +kernel)) (by decide +kernel)
theorem m_L_107 : Cond.methodLink RL 107 yL_act ∈ fw_U := fw_mem (List.mem_of_getElem? (i := 491) (by decide +kernel)) (by decide +kernel)
theorem m_L_77 : Cond.methodLink RL 77 yX7_snake ∈ fw_U := fw_mem (List.mem_of_getElem? (i := 494) (by decide +kernel)) (by decide +kernel)
theorem m_X7_47 : Cond.methodLink RX7 47 yX7_isSnakeForm ∈ fw_U := fw_mem (List.mem_of_getElem? (i := 498) (by decide +kernel)) (by decide +kernel)
theorem m_X7_55 : Cond.methodLink RX7 55 yX3_freeNumber ∈ fw_U := fw_mem (List.mem_of_getElem? (i := 501) (by decide +kernel)) (by decide +kernel)
theorem m_X7_59 : Cond.methodLink RX7 59 yX3_placeOfSnake ∈ fw_U := fw_mem (List.mem_of_getElem? (i := 505) (by decide +kernel)) (by decide +kernel)
theorem m_X7_67 : Cond.methodLink RX7 67 yX6_appear ∈ fw_U := fw_mem (List.mem_of_getElem? (i := 506) (by decide +kernel)) (by decide +kernel)
theorem m_L_80 : Cond.methodLink RL 80 yL_turns ∈ fw_U := fw_mem (List.mem_of_getElem? (i := 510) (by decide +kernel)) (by decide +kernel)
theorem m_L_51 : Cond.methodLink RL 51 yX7_turn ∈ fw_U := fw_mem (List.mem_of_getElem? (i := 513) (by decide +kernel)) (by decide +kernel)
theorem cst_L_83 : Cond.constant RL 83 65536 ∈ fw_U := fw_mem (List.mem_of_getElem? (i := 517) (by decide +kernel)) (by decide +kernel)
theorem m_L_88 : Cond.methodLink RL 88 yL_sells ∈ fw_U := fw_mem (List.mem_of_getElem? (i := 518) (by decide +kernel)) (by decide +kernel)
theorem m_L_67 : Cond.methodLink RL 67 yX7_sell ∈ fw_U := fw_mem (List.mem_of_getElem? (i := 521) (by decide +kernel)) (by decide +kernel)
theorem m_X7_100 : Cond.methodLink RX7 100 yX3_obstacle ∈ fw_U := fw_mem (List.mem_of_getElem? (i := 525) (by decide +kernel)) (by decide +kernel)
theorem m_X3_150 : Cond.methodLink RX3 150 yX3_biteOf ∈ fw_U := fw_mem (List.mem_of_getElem? (i := 529) (by decide +kernel)) (by decide +kernel)
theorem m_X3_157 : Cond.methodLink RX3 157 yX0_wasHeldBy ∈ fw_U := fw_mem (List.mem_of_getElem? (i := 530) (by decide +kernel)) (by decide +kernel)
theorem m_X3_160 : Cond.methodLink RX3 160 yX3_askedBy ∈ fw_U := fw_mem (List.mem_of_getElem? (i := 534) (by decide +kernel)) (by decide +kernel)
theorem m_X7_104 : Cond.methodLink RX7 104 yX3_trade ∈ fw_U := fw_mem (List.mem_of_getElem? (i := 538) (by decide +kernel)) (by decide +kernel)
theorem m_X3_164 : Cond.methodLink RX3 164 yX3_obstacle ∈ fw_U := fw_mem (List.mem_of_getElem? (i := 542) (by decide +kernel)) (by decide +kernel)
theorem m_X3_168 : Cond.methodLink RX3 168 yX0_copyFrom ∈ fw_U := fw_mem (List.mem_of_getElem? (i := 543) (by decide +kernel)) (by decide +kernel)
theorem m_X3_171 : Cond.methodLink RX3 171 yX0_passTo ∈ fw_U := fw_mem (List.mem_of_getElem? (i := 544) (by decide +kernel)) (by decide +kernel)
theorem m_X3_175 : Cond.methodLink RX3 175 yX2_remove ∈ fw_U := fw_mem (List.mem_of_getElem? (i := 548) (by decide +kernel)) (by decide +kernel)
theorem m_L_71 : Cond.methodLink RL 71 yX7_cheapest ∈ fw_U := fw_mem (List.mem_of_getElem? (i := 552) (by decide +kernel)) (by decide +kernel)
theorem m_X7_226 : Cond.methodLink RX7 226 yX3_askedBy ∈ fw_U := fw_mem (List.mem_of_getElem? (i := 556) (by decide +kernel)) (by decide +kernel)
theorem m_L_74 : Cond.methodLink RL 74 yX7_why ∈ fw_U := fw_mem (List.mem_of_getElem? (i := 557) (by decide +kernel)) (by decide +kernel)
theorem m_L_91 : Cond.methodLink RL 91 yX7_charm ∈ fw_U := fw_mem (List.mem_of_getElem? (i := 561) (by decide +kernel)) (by decide +kernel)
theorem m_X7_80 : Cond.methodLink RX7 80 yX6_vanish ∈ fw_U := fw_mem (List.mem_of_getElem? (i := 565) (by decide +kernel)) (by decide +kernel)
theorem m_X6_22 : Cond.methodLink RX6 22 yX6_appear ∈ fw_U := fw_mem (List.mem_of_getElem? (i := 569) (by decide +kernel)) (by decide +kernel)
theorem m_L_94 : Cond.methodLink RL 94 yX7_set ∈ fw_U := fw_mem (List.mem_of_getElem? (i := 570) (by decide +kernel)) (by decide +kernel)
theorem m_X7_107 : Cond.methodLink RX7 107 yX7_leastValue ∈ fw_U := fw_mem (List.mem_of_getElem? (i := 574) (by decide +kernel)) (by decide +kernel)
theorem m_X7_110 : Cond.methodLink RX7 110 yX7_highestValue ∈ fw_U := fw_mem (List.mem_of_getElem? (i := 577) (by decide +kernel)) (by decide +kernel)
theorem m_X7_116 : Cond.methodLink RX7 116 yX3_changeSetting ∈ fw_U := fw_mem (List.mem_of_getElem? (i := 580) (by decide +kernel)) (by decide +kernel)
theorem cst_L_106 : Cond.constant RL 106 65535 ∈ fw_U := fw_mem (List.mem_of_getElem? (i := 584) (by decide +kernel)) (by decide +kernel)
theorem oi_1 : Cond.instanceMethod Lib.objectInit ∈ fw_U := fw_mem (List.mem_of_getElem? (i := 15) (by decide +kernel)) (by decide +kernel)
theorem oi_2 : Cond.code Lib.objectInit ⟨#[0xb1]⟩ 1 none ∈ fw_U := fw_mem (List.mem_of_getElem? (i := 16) (by decide +kernel)) (by decide +kernel)
theorem C0 : fw_cl 0 RX0 TX0 4 tyX0 := ⟨rfl, by decide, fw_memL [48, 50, 52, 54] (by decide +kernel) (by decide +kernel), tyX0_ok, nmX0, fun _ _ _ _ => rfl⟩
theorem C1 : fw_cl 1 RX1 TX1 2 tyX1 := ⟨rfl, by decide, fw_memL [167, 169] (by decide +kernel) (by decide +kernel), tyX1_ok, nmX1, fun _ _ _ _ => rfl⟩
theorem C2 : fw_cl 2 RX2 TX2 7 tyX2 := ⟨rfl, by decide, fw_memL [75, 77, 79, 81, 83, 85, 87] (by decide +kernel) (by decide +kernel), tyX2_ok, nmX2, fun _ _ _ _ => rfl⟩
theorem C3 : fw_cl 3 RX3 TX3 10 tyX3 := ⟨rfl, by decide, fw_memL [134, 136, 138, 140, 142, 144, 146, 148, 150, 152] (by decide +kernel) (by decide +kernel), tyX3_ok, nmX3, fun _ _ _ _ => rfl⟩
theorem C4 : fw_cl 4 RX4 TX4 2 tyX4 := ⟨rfl, by decide, fw_memL [180, 182] (by decide +kernel) (by decide +kernel), tyX4_ok, nmX4, fun _ _ _ _ => rfl⟩
theorem C5 : fw_cl 5 RX5 TX5 3 tyX5 := ⟨rfl, by decide, fw_memL [195, 197, 199] (by decide +kernel) (by decide +kernel), tyX5_ok, nmX5, fun _ _ _ _ => rfl⟩
theorem C6 : fw_cl 6 RX6 TX6 4 tyX6 := ⟨rfl, by decide, fw_memL [111, 113, 115, 117] (by decide +kernel) (by decide +kernel), tyX6_ok, nmX6, fun _ _ _ _ => rfl⟩
theorem C7 : fw_cl 7 RX7 TX7 7 tyX7 := ⟨rfl, by decide, fw_memL [209, 211, 213, 215, 217, 219, 221] (by decide +kernel) (by decide +kernel), tyX7_ok, nmX7, fun _ _ _ _ => rfl⟩
abbrev kX0_copyFrom : fw_M := (yX0_copyFrom, cX0_copyFrom, 2, none, 0, 0)
theorem o_X0_copyFrom : fw_kv kX0_copyFrom 0 1 := ⟨⟨fw_mem (List.mem_of_getElem? (i := 423) (by decide +kernel)) (by decide +kernel), ini_X0, (by decide +kernel), (by decide +kernel), (by decide +kernel)⟩, fw_mem (List.mem_of_getElem? (i := 421) (by decide +kernel)) (by decide +kernel), fw_mem (List.mem_of_getElem? (i := 422) (by decide +kernel)) (by decide +kernel), by decide, ⟨_, rfl, rfl⟩⟩
abbrev kX2_biteAt : fw_M := (yX2_biteAt, cX2_biteAt, 2, (some (.object "SnakeTrades$Bite")), 0, 0)
theorem o_X2_biteAt : fw_kv kX2_biteAt 2 1 := ⟨⟨fw_mem (List.mem_of_getElem? (i := 289) (by decide +kernel)) (by decide +kernel), ini_X2, (by decide +kernel), (by decide +kernel), (by decide +kernel)⟩, fw_mem (List.mem_of_getElem? (i := 287) (by decide +kernel)) (by decide +kernel), fw_mem (List.mem_of_getElem? (i := 288) (by decide +kernel)) (by decide +kernel), by decide, ⟨_, rfl, rfl⟩⟩
abbrev kX2_copyFrom : fw_M := (yX2_copyFrom, cX2_copyFrom, 5, none, 1, 21)
theorem o_X2_copyFrom : fw_kv kX2_copyFrom 2 1 := ⟨⟨fw_mem (List.mem_of_getElem? (i := 419) (by decide +kernel)) (by decide +kernel), ini_X2, (by decide +kernel), (by decide +kernel), (by decide +kernel)⟩, fw_mem (List.mem_of_getElem? (i := 417) (by decide +kernel)) (by decide +kernel), fw_mem (List.mem_of_getElem? (i := 418) (by decide +kernel)) (by decide +kernel), by decide, ⟨_, rfl, rfl⟩⟩
abbrev kX6_copyFrom : fw_M := (yX6_copyFrom, cX6_copyFrom, 2, none, 0, 0)
theorem o_X6_copyFrom : fw_kv kX6_copyFrom 6 1 := ⟨⟨fw_mem (List.mem_of_getElem? (i := 427) (by decide +kernel)) (by decide +kernel), ini_X6, (by decide +kernel), (by decide +kernel), (by decide +kernel)⟩, fw_mem (List.mem_of_getElem? (i := 425) (by decide +kernel)) (by decide +kernel), fw_mem (List.mem_of_getElem? (i := 426) (by decide +kernel)) (by decide +kernel), by decide, ⟨_, rfl, rfl⟩⟩
abbrev kX3_pieceOf : fw_M := (yX3_pieceOf, cX3_pieceOf, 2, (some (.object "SnakeTrades$Piece")), 0, 0)
theorem o_X3_pieceOf : fw_kv kX3_pieceOf 3 1 := ⟨⟨fw_mem (List.mem_of_getElem? (i := 239) (by decide +kernel)) (by decide +kernel), ini_X3, (by decide +kernel), (by decide +kernel), (by decide +kernel)⟩, fw_mem (List.mem_of_getElem? (i := 237) (by decide +kernel)) (by decide +kernel), fw_mem (List.mem_of_getElem? (i := 238) (by decide +kernel)) (by decide +kernel), by decide, ⟨_, rfl, rfl⟩⟩
abbrev kX3_placeOfSnake : fw_M := (yX3_placeOfSnake, cX3_placeOfSnake, 2, (some (.object "SnakeTrades$Snake")), 0, 0)
theorem o_X3_placeOfSnake : fw_kv kX3_placeOfSnake 3 1 := ⟨⟨fw_mem (List.mem_of_getElem? (i := 255) (by decide +kernel)) (by decide +kernel), ini_X3, (by decide +kernel), (by decide +kernel), (by decide +kernel)⟩, fw_mem (List.mem_of_getElem? (i := 253) (by decide +kernel)) (by decide +kernel), fw_mem (List.mem_of_getElem? (i := 254) (by decide +kernel)) (by decide +kernel), by decide, ⟨_, rfl, rfl⟩⟩
abbrev kX3_copyFrom : fw_M := (yX3_copyFrom, cX3_copyFrom, 5, none, 2, 45)
theorem o_X3_copyFrom : fw_kv kX3_copyFrom 3 1 := ⟨⟨fw_mem (List.mem_of_getElem? (i := 415) (by decide +kernel)) (by decide +kernel), ini_X3, (by decide +kernel), (by decide +kernel), (by decide +kernel)⟩, fw_mem (List.mem_of_getElem? (i := 413) (by decide +kernel)) (by decide +kernel), fw_mem (List.mem_of_getElem? (i := 414) (by decide +kernel)) (by decide +kernel), by decide, ⟨_, rfl, rfl⟩⟩
abbrev kX1_stateAt : fw_M := (yX1_stateAt, cX1_stateAt, 2, (some (.object "SnakeTrades$Race")), 0, 0)
theorem o_X1_stateAt : fw_kv kX1_stateAt 1 1 := ⟨⟨fw_mem (List.mem_of_getElem? (i := 481) (by decide +kernel)) (by decide +kernel), ini_X1, (by decide +kernel), (by decide +kernel), (by decide +kernel)⟩, fw_mem (List.mem_of_getElem? (i := 480) (by decide +kernel)) (by decide +kernel), fw_memS (q := (yX1_stateAt, 2)) (List.mem_of_getElem? (i := 9) (by decide +kernel)) (by decide +kernel), by decide, ⟨_, rfl, rfl⟩⟩
abbrev kX1_dropOldest : fw_M := (yX1_dropOldest, cX1_dropOldest, 4, none, 1, 21)
theorem o_X1_dropOldest : fw_kv kX1_dropOldest 1 0 := ⟨⟨fw_mem (List.mem_of_getElem? (i := 477) (by decide +kernel)) (by decide +kernel), ini_X1, (by decide +kernel), (by decide +kernel), (by decide +kernel)⟩, fw_mem (List.mem_of_getElem? (i := 476) (by decide +kernel)) (by decide +kernel), fw_memS (q := (yX1_dropOldest, 2)) (List.mem_of_getElem? (i := 8) (by decide +kernel)) (by decide +kernel), by decide, ⟨_, rfl, rfl⟩⟩
abbrev kX1_remember : fw_M := (yX1_remember, cX1_remember, 3, none, 3, 69)
theorem o_X1_remember : fw_kv kX1_remember 1 1 := ⟨⟨fw_mem (List.mem_of_getElem? (i := 473) (by decide +kernel)) (by decide +kernel), ini_X1, (by decide +kernel), (by decide +kernel), (by decide +kernel)⟩, fw_mem (List.mem_of_getElem? (i := 471) (by decide +kernel)) (by decide +kernel), fw_mem (List.mem_of_getElem? (i := 472) (by decide +kernel)) (by decide +kernel), by decide, ⟨_, rfl, rfl⟩⟩
abbrev kX6_isThere : fw_M := (yX6_isThere, cX6_isThere, 1, (some .boolean), 0, 0)
theorem o_X6_isThere : fw_kv kX6_isThere 6 0 := ⟨⟨fw_mem (List.mem_of_getElem? (i := 259) (by decide +kernel)) (by decide +kernel), ini_X6, (by decide +kernel), (by decide +kernel), (by decide +kernel)⟩, fw_mem (List.mem_of_getElem? (i := 257) (by decide +kernel)) (by decide +kernel), fw_mem (List.mem_of_getElem? (i := 258) (by decide +kernel)) (by decide +kernel), by decide, ⟨_, rfl, rfl⟩⟩
abbrev kX3_snakeNumbered : fw_M := (yX3_snakeNumbered, cX3_snakeNumbered, 3, (some (.object "SnakeTrades$Snake")), 1, 21)
theorem o_X3_snakeNumbered : fw_kv kX3_snakeNumbered 3 1 := ⟨⟨fw_mem (List.mem_of_getElem? (i := 251) (by decide +kernel)) (by decide +kernel), ini_X3, (by decide +kernel), (by decide +kernel), (by decide +kernel)⟩, fw_mem (List.mem_of_getElem? (i := 249) (by decide +kernel)) (by decide +kernel), fw_mem (List.mem_of_getElem? (i := 250) (by decide +kernel)) (by decide +kernel), by decide, ⟨_, rfl, rfl⟩⟩
abbrev kX6_appear : fw_M := (yX6_appear, cX6_appear, 3, none, 0, 0)
theorem o_X6_appear : fw_kv kX6_appear 6 2 := ⟨⟨fw_mem (List.mem_of_getElem? (i := 509) (by decide +kernel)) (by decide +kernel), ini_X6, (by decide +kernel), (by decide +kernel), (by decide +kernel)⟩, fw_mem (List.mem_of_getElem? (i := 507) (by decide +kernel)) (by decide +kernel), fw_mem (List.mem_of_getElem? (i := 508) (by decide +kernel)) (by decide +kernel), by decide, ⟨_, rfl, rfl⟩⟩
abbrev kX6_vanish : fw_M := (yX6_vanish, cX6_vanish, 1, none, 1, 22)
theorem o_X6_vanish : fw_kv kX6_vanish 6 0 := ⟨⟨fw_mem (List.mem_of_getElem? (i := 568) (by decide +kernel)) (by decide +kernel), ini_X6, (by decide +kernel), (by decide +kernel), (by decide +kernel)⟩, fw_mem (List.mem_of_getElem? (i := 566) (by decide +kernel)) (by decide +kernel), fw_mem (List.mem_of_getElem? (i := 567) (by decide +kernel)) (by decide +kernel), by decide, ⟨_, rfl, rfl⟩⟩
abbrev kX7_charm : fw_M := (yX7_charm, cX7_charm, 5, (some .int), 4, 91)
theorem o_X7_charm : fw_kv kX7_charm 7 2 := ⟨⟨fw_mem (List.mem_of_getElem? (i := 564) (by decide +kernel)) (by decide +kernel), ini_X7, (by decide +kernel), (by decide +kernel), (by decide +kernel)⟩, fw_mem (List.mem_of_getElem? (i := 562) (by decide +kernel)) (by decide +kernel), fw_mem (List.mem_of_getElem? (i := 563) (by decide +kernel)) (by decide +kernel), by decide, ⟨_, rfl, rfl⟩⟩
abbrev kX3_bitesHeld : fw_M := (yX3_bitesHeld, cX3_bitesHeld, 4, (some .int), 1, 21)
theorem o_X3_bitesHeld : fw_kv kX3_bitesHeld 3 0 := ⟨⟨fw_mem (List.mem_of_getElem? (i := 263) (by decide +kernel)) (by decide +kernel), ini_X3, (by decide +kernel), (by decide +kernel), (by decide +kernel)⟩, fw_mem (List.mem_of_getElem? (i := 261) (by decide +kernel)) (by decide +kernel), fw_mem (List.mem_of_getElem? (i := 262) (by decide +kernel)) (by decide +kernel), by decide, ⟨_, rfl, rfl⟩⟩
abbrev kX3_coinsOfAll : fw_M := (yX3_coinsOfAll, cX3_coinsOfAll, 4, (some .int), 1, 21)
theorem o_X3_coinsOfAll : fw_kv kX3_coinsOfAll 3 0 := ⟨⟨fw_mem (List.mem_of_getElem? (i := 267) (by decide +kernel)) (by decide +kernel), ini_X3, (by decide +kernel), (by decide +kernel), (by decide +kernel)⟩, fw_mem (List.mem_of_getElem? (i := 265) (by decide +kernel)) (by decide +kernel), fw_mem (List.mem_of_getElem? (i := 266) (by decide +kernel)) (by decide +kernel), by decide, ⟨_, rfl, rfl⟩⟩
abbrev kX2_isInRace : fw_M := (yX2_isInRace, cX2_isInRace, 1, (some .boolean), 0, 0)
theorem o_X2_isInRace : fw_kv kX2_isInRace 2 0 := ⟨⟨fw_mem (List.mem_of_getElem? (i := 243) (by decide +kernel)) (by decide +kernel), ini_X2, (by decide +kernel), (by decide +kernel), (by decide +kernel)⟩, fw_mem (List.mem_of_getElem? (i := 241) (by decide +kernel)) (by decide +kernel), fw_mem (List.mem_of_getElem? (i := 242) (by decide +kernel)) (by decide +kernel), by decide, ⟨_, rfl, rfl⟩⟩
abbrev kX3_isInRace : fw_M := (yX3_isInRace, cX3_isInRace, 3, (some .boolean), 1, 21)
theorem o_X3_isInRace : fw_kv kX3_isInRace 3 1 := ⟨⟨fw_mem (List.mem_of_getElem? (i := 235) (by decide +kernel)) (by decide +kernel), ini_X3, (by decide +kernel), (by decide +kernel), (by decide +kernel)⟩, fw_mem (List.mem_of_getElem? (i := 233) (by decide +kernel)) (by decide +kernel), fw_mem (List.mem_of_getElem? (i := 234) (by decide +kernel)) (by decide +kernel), by decide, ⟨_, rfl, rfl⟩⟩
abbrev kX3_playersInRace : fw_M := (yX3_playersInRace, cX3_playersInRace, 3, (some .int), 2, 43)
theorem o_X3_playersInRace : fw_kv kX3_playersInRace 3 0 := ⟨⟨fw_mem (List.mem_of_getElem? (i := 231) (by decide +kernel)) (by decide +kernel), ini_X3, (by decide +kernel), (by decide +kernel), (by decide +kernel)⟩, fw_mem (List.mem_of_getElem? (i := 229) (by decide +kernel)) (by decide +kernel), fw_mem (List.mem_of_getElem? (i := 230) (by decide +kernel)) (by decide +kernel), by decide, ⟨_, rfl, rfl⟩⟩
abbrev kX3_settingOf : fw_M := (yX3_settingOf, cX3_settingOf, 2, (some .int), 0, 0)
theorem o_X3_settingOf : fw_kv kX3_settingOf 3 1 := ⟨⟨fw_mem (List.mem_of_getElem? (i := 271) (by decide +kernel)) (by decide +kernel), ini_X3, (by decide +kernel), (by decide +kernel), (by decide +kernel)⟩, fw_mem (List.mem_of_getElem? (i := 269) (by decide +kernel)) (by decide +kernel), fw_mem (List.mem_of_getElem? (i := 270) (by decide +kernel)) (by decide +kernel), by decide, ⟨_, rfl, rfl⟩⟩
abbrev kX3_snakesThere : fw_M := (yX3_snakesThere, cX3_snakesThere, 3, (some .int), 2, 43)
theorem o_X3_snakesThere : fw_kv kX3_snakesThere 3 0 := ⟨⟨fw_mem (List.mem_of_getElem? (i := 247) (by decide +kernel)) (by decide +kernel), ini_X3, (by decide +kernel), (by decide +kernel), (by decide +kernel)⟩, fw_mem (List.mem_of_getElem? (i := 245) (by decide +kernel)) (by decide +kernel), fw_mem (List.mem_of_getElem? (i := 246) (by decide +kernel)) (by decide +kernel), by decide, ⟨_, rfl, rfl⟩⟩
abbrev kX7_count : fw_M := (yX7_count, cX7_count, 2, (some .int), 3, 65)
theorem o_X7_count : fw_kv kX7_count 7 1 := ⟨⟨fw_mem (List.mem_of_getElem? (i := 227) (by decide +kernel)) (by decide +kernel), ini_X7, (by decide +kernel), (by decide +kernel), (by decide +kernel)⟩, fw_mem (List.mem_of_getElem? (i := 225) (by decide +kernel)) (by decide +kernel), fw_mem (List.mem_of_getElem? (i := 226) (by decide +kernel)) (by decide +kernel), by decide, ⟨_, rfl, rfl⟩⟩
abbrev kX2_sizesTogether : fw_M := (yX2_sizesTogether, cX2_sizesTogether, 4, (some .int), 1, 21)
theorem o_X2_sizesTogether : fw_kv kX2_sizesTogether 2 0 := ⟨⟨fw_mem (List.mem_of_getElem? (i := 285) (by decide +kernel)) (by decide +kernel), ini_X2, (by decide +kernel), (by decide +kernel), (by decide +kernel)⟩, fw_mem (List.mem_of_getElem? (i := 283) (by decide +kernel)) (by decide +kernel), fw_mem (List.mem_of_getElem? (i := 284) (by decide +kernel)) (by decide +kernel), by decide, ⟨_, rfl, rfl⟩⟩
abbrev kX2_nextBeginning : fw_M := (yX2_nextBeginning, cX2_nextBeginning, 2, (some .int), 2, 44)
theorem o_X2_nextBeginning : fw_kv kX2_nextBeginning 2 0 := ⟨⟨fw_mem (List.mem_of_getElem? (i := 281) (by decide +kernel)) (by decide +kernel), ini_X2, (by decide +kernel), (by decide +kernel), (by decide +kernel)⟩, fw_mem (List.mem_of_getElem? (i := 279) (by decide +kernel)) (by decide +kernel), fw_mem (List.mem_of_getElem? (i := 280) (by decide +kernel)) (by decide +kernel), by decide, ⟨_, rfl, rfl⟩⟩
abbrev kX3_numberOfHeadOn : fw_M := (yX3_numberOfHeadOn, cX3_numberOfHeadOn, 4, (some .int), 2, 43)
theorem o_X3_numberOfHeadOn : fw_kv kX3_numberOfHeadOn 3 1 := ⟨⟨fw_mem (List.mem_of_getElem? (i := 316) (by decide +kernel)) (by decide +kernel), ini_X3, (by decide +kernel), (by decide +kernel), (by decide +kernel)⟩, fw_mem (List.mem_of_getElem? (i := 314) (by decide +kernel)) (by decide +kernel), fw_mem (List.mem_of_getElem? (i := 315) (by decide +kernel)) (by decide +kernel), by decide, ⟨_, rfl, rfl⟩⟩
abbrev kX3_piecesOn : fw_M := (yX3_piecesOn, cX3_piecesOn, 5, (some .int), 1, 21)
theorem o_X3_piecesOn : fw_kv kX3_piecesOn 3 1 := ⟨⟨fw_mem (List.mem_of_getElem? (i := 370) (by decide +kernel)) (by decide +kernel), ini_X3, (by decide +kernel), (by decide +kernel), (by decide +kernel)⟩, fw_mem (List.mem_of_getElem? (i := 368) (by decide +kernel)) (by decide +kernel), fw_mem (List.mem_of_getElem? (i := 369) (by decide +kernel)) (by decide +kernel), by decide, ⟨_, rfl, rfl⟩⟩
abbrev kX3_biterOf : fw_M := (yX3_biterOf, cX3_biterOf, 5, (some (.object "SnakeTrades$Snake")), 3, 66)
theorem o_X3_biterOf : fw_kv kX3_biterOf 3 2 := ⟨⟨fw_mem (List.mem_of_getElem? (i := 390) (by decide +kernel)) (by decide +kernel), ini_X3, (by decide +kernel), (by decide +kernel), (by decide +kernel)⟩, fw_mem (List.mem_of_getElem? (i := 388) (by decide +kernel)) (by decide +kernel), fw_mem (List.mem_of_getElem? (i := 389) (by decide +kernel)) (by decide +kernel), by decide, ⟨_, rfl, rfl⟩⟩
abbrev kX7_landing : fw_M := (yX7_landing, cX7_landing, 3, (some .int), 0, 0)
theorem o_X7_landing : fw_ks kX7_landing 2 := ⟨⟨fw_mem (List.mem_of_getElem? (i := 308) (by decide +kernel)) (by decide +kernel), ini_X7, (by decide +kernel), (by decide +kernel), (by decide +kernel)⟩, fw_mem (List.mem_of_getElem? (i := 307) (by decide +kernel)) (by decide +kernel)⟩
abbrev kX7_dangers : fw_M := (yX7_dangers, cX7_dangers, 6, (some .int), 4, 90)
theorem o_X7_dangers : fw_kv kX7_dangers 7 1 := ⟨⟨fw_mem (List.mem_of_getElem? (i := 385) (by decide +kernel)) (by decide +kernel), ini_X7, (by decide +kernel), (by decide +kernel), (by decide +kernel)⟩, fw_mem (List.mem_of_getElem? (i := 383) (by decide +kernel)) (by decide +kernel), fw_mem (List.mem_of_getElem? (i := 384) (by decide +kernel)) (by decide +kernel), by decide, ⟨_, rfl, rfl⟩⟩
abbrev kX3_changeSetting : fw_M := (yX3_changeSetting, cX3_changeSetting, 3, none, 0, 0)
theorem o_X3_changeSetting : fw_kv kX3_changeSetting 3 2 := ⟨⟨fw_mem (List.mem_of_getElem? (i := 583) (by decide +kernel)) (by decide +kernel), ini_X3, (by decide +kernel), (by decide +kernel), (by decide +kernel)⟩, fw_mem (List.mem_of_getElem? (i := 581) (by decide +kernel)) (by decide +kernel), fw_mem (List.mem_of_getElem? (i := 582) (by decide +kernel)) (by decide +kernel), by decide, ⟨_, rfl, rfl⟩⟩
abbrev kX7_highestValue : fw_M := (yX7_highestValue, cX7_highestValue, 1, (some .int), 0, 0)
theorem o_X7_highestValue : fw_ks kX7_highestValue 1 := ⟨⟨fw_mem (List.mem_of_getElem? (i := 579) (by decide +kernel)) (by decide +kernel), ini_X7, (by decide +kernel), (by decide +kernel), (by decide +kernel)⟩, fw_mem (List.mem_of_getElem? (i := 578) (by decide +kernel)) (by decide +kernel)⟩
abbrev kX7_leastValue : fw_M := (yX7_leastValue, cX7_leastValue, 1, (some .int), 0, 0)
theorem o_X7_leastValue : fw_ks kX7_leastValue 1 := ⟨⟨fw_mem (List.mem_of_getElem? (i := 576) (by decide +kernel)) (by decide +kernel), ini_X7, (by decide +kernel), (by decide +kernel), (by decide +kernel)⟩, fw_mem (List.mem_of_getElem? (i := 575) (by decide +kernel)) (by decide +kernel)⟩
abbrev kX7_set : fw_M := (yX7_set, cX7_set, 4, (some .int), 4, 91)
theorem o_X7_set : fw_kv kX7_set 7 2 := ⟨⟨fw_mem (List.mem_of_getElem? (i := 573) (by decide +kernel)) (by decide +kernel), ini_X7, (by decide +kernel), (by decide +kernel), (by decide +kernel)⟩, fw_mem (List.mem_of_getElem? (i := 571) (by decide +kernel)) (by decide +kernel), fw_mem (List.mem_of_getElem? (i := 572) (by decide +kernel)) (by decide +kernel), by decide, ⟨_, rfl, rfl⟩⟩
abbrev kX3_freeNumber : fw_M := (yX3_freeNumber, cX3_freeNumber, 2, (some .int), 2, 43)
theorem o_X3_freeNumber : fw_kv kX3_freeNumber 3 0 := ⟨⟨fw_mem (List.mem_of_getElem? (i := 504) (by decide +kernel)) (by decide +kernel), ini_X3, (by decide +kernel), (by decide +kernel), (by decide +kernel)⟩, fw_mem (List.mem_of_getElem? (i := 502) (by decide +kernel)) (by decide +kernel), fw_mem (List.mem_of_getElem? (i := 503) (by decide +kernel)) (by decide +kernel), by decide, ⟨_, rfl, rfl⟩⟩
abbrev kX7_isSnakeForm : fw_M := (yX7_isSnakeForm, cX7_isSnakeForm, 2, (some .boolean), 0, 0)
theorem o_X7_isSnakeForm : fw_ks kX7_isSnakeForm 2 := ⟨⟨fw_mem (List.mem_of_getElem? (i := 500) (by decide +kernel)) (by decide +kernel), ini_X7, (by decide +kernel), (by decide +kernel), (by decide +kernel)⟩, fw_mem (List.mem_of_getElem? (i := 499) (by decide +kernel)) (by decide +kernel)⟩
abbrev kX7_snake : fw_M := (yX7_snake, cX7_snake, 5, (some .int), 4, 91)
theorem o_X7_snake : fw_kv kX7_snake 7 2 := ⟨⟨fw_mem (List.mem_of_getElem? (i := 497) (by decide +kernel)) (by decide +kernel), ini_X7, (by decide +kernel), (by decide +kernel), (by decide +kernel)⟩, fw_mem (List.mem_of_getElem? (i := 495) (by decide +kernel)) (by decide +kernel), fw_mem (List.mem_of_getElem? (i := 496) (by decide +kernel)) (by decide +kernel), by decide, ⟨_, rfl, rfl⟩⟩
abbrev kX7_snakeOf : fw_M := (yX7_snakeOf, cX7_snakeOf, 4, (some .int), 2, 43)
theorem o_X7_snakeOf : fw_kv kX7_snakeOf 7 2 := ⟨⟨fw_mem (List.mem_of_getElem? (i := 395) (by decide +kernel)) (by decide +kernel), ini_X7, (by decide +kernel), (by decide +kernel), (by decide +kernel)⟩, fw_mem (List.mem_of_getElem? (i := 393) (by decide +kernel)) (by decide +kernel), fw_mem (List.mem_of_getElem? (i := 394) (by decide +kernel)) (by decide +kernel), by decide, ⟨_, rfl, rfl⟩⟩
abbrev kX3_tailsOn : fw_M := (yX3_tailsOn, cX3_tailsOn, 5, (some .int), 2, 43)
theorem o_X3_tailsOn : fw_kv kX3_tailsOn 3 1 := ⟨⟨fw_mem (List.mem_of_getElem? (i := 375) (by decide +kernel)) (by decide +kernel), ini_X3, (by decide +kernel), (by decide +kernel), (by decide +kernel)⟩, fw_mem (List.mem_of_getElem? (i := 373) (by decide +kernel)) (by decide +kernel), fw_mem (List.mem_of_getElem? (i := 374) (by decide +kernel)) (by decide +kernel), by decide, ⟨_, rfl, rfl⟩⟩
abbrev kX7_square : fw_M := (yX7_square, cX7_square, 3, (some .int), 3, 67)
theorem o_X7_square : fw_kv kX7_square 7 2 := ⟨⟨fw_mem (List.mem_of_getElem? (i := 366) (by decide +kernel)) (by decide +kernel), ini_X7, (by decide +kernel), (by decide +kernel), (by decide +kernel)⟩, fw_mem (List.mem_of_getElem? (i := 364) (by decide +kernel)) (by decide +kernel), fw_mem (List.mem_of_getElem? (i := 365) (by decide +kernel)) (by decide +kernel), by decide, ⟨_, rfl, rfl⟩⟩
abbrev kL_low : fw_M := (yL_low, cL_low, 2, (some .int), 0, 0)
theorem o_L_low : fw_ks kL_low 2 := ⟨⟨fw_mem (List.mem_of_getElem? (i := 338) (by decide +kernel)) (by decide +kernel), ini_L, (by decide +kernel), (by decide +kernel), (by decide +kernel)⟩, fw_mem (List.mem_of_getElem? (i := 337) (by decide +kernel)) (by decide +kernel)⟩
abbrev kX3_isOver : fw_M := (yX3_isOver, cX3_isOver, 1, (some .boolean), 0, 0)
theorem o_X3_isOver : fw_kv kX3_isOver 3 0 := ⟨⟨fw_mem (List.mem_of_getElem? (i := 411) (by decide +kernel)) (by decide +kernel), ini_X3, (by decide +kernel), (by decide +kernel), (by decide +kernel)⟩, fw_mem (List.mem_of_getElem? (i := 409) (by decide +kernel)) (by decide +kernel), fw_mem (List.mem_of_getElem? (i := 410) (by decide +kernel)) (by decide +kernel), by decide, ⟨_, rfl, rfl⟩⟩
abbrev kX2_hurt : fw_M := (yX2_hurt, cX2_hurt, 2, none, 3, 65)
theorem o_X2_hurt : fw_kv kX2_hurt 2 0 := ⟨⟨fw_mem (List.mem_of_getElem? (i := 442) (by decide +kernel)) (by decide +kernel), ini_X2, (by decide +kernel), (by decide +kernel), (by decide +kernel)⟩, fw_mem (List.mem_of_getElem? (i := 440) (by decide +kernel)) (by decide +kernel), fw_mem (List.mem_of_getElem? (i := 441) (by decide +kernel)) (by decide +kernel), by decide, ⟨_, rfl, rfl⟩⟩
abbrev kX0_begin : fw_M := (yX0_begin, cX0_begin, 3, none, 0, 0)
theorem o_X0_begin : fw_kv kX0_begin 0 2 := ⟨⟨fw_mem (List.mem_of_getElem? (i := 457) (by decide +kernel)) (by decide +kernel), ini_X0, (by decide +kernel), (by decide +kernel), (by decide +kernel)⟩, fw_mem (List.mem_of_getElem? (i := 455) (by decide +kernel)) (by decide +kernel), fw_mem (List.mem_of_getElem? (i := 456) (by decide +kernel)) (by decide +kernel), by decide, ⟨_, rfl, rfl⟩⟩
abbrev kX2_newLast : fw_M := (yX2_newLast, cX2_newLast, 1, (some (.object "SnakeTrades$Bite")), 1, 21)
theorem o_X2_newLast : fw_kv kX2_newLast 2 0 := ⟨⟨fw_mem (List.mem_of_getElem? (i := 453) (by decide +kernel)) (by decide +kernel), ini_X2, (by decide +kernel), (by decide +kernel), (by decide +kernel)⟩, fw_mem (List.mem_of_getElem? (i := 451) (by decide +kernel)) (by decide +kernel), fw_mem (List.mem_of_getElem? (i := 452) (by decide +kernel)) (by decide +kernel), by decide, ⟨_, rfl, rfl⟩⟩
abbrev kX3_biteWith : fw_M := (yX3_biteWith, cX3_biteWith, 5, none, 2, 41)
theorem o_X3_biteWith : fw_kv kX3_biteWith 3 3 := ⟨⟨fw_mem (List.mem_of_getElem? (i := 449) (by decide +kernel)) (by decide +kernel), ini_X3, (by decide +kernel), (by decide +kernel), (by decide +kernel)⟩, fw_mem (List.mem_of_getElem? (i := 448) (by decide +kernel)) (by decide +kernel), fw_memS (q := (yX3_biteWith, 10)) (List.mem_of_getElem? (i := 5) (by decide +kernel)) (by decide +kernel), by decide, ⟨_, rfl, rfl⟩⟩
abbrev kX3_moverAfter : fw_M := (yX3_moverAfter, cX3_moverAfter, 4, (some .int), 2, 43)
theorem o_X3_moverAfter : fw_kv kX3_moverAfter 3 1 := ⟨⟨fw_mem (List.mem_of_getElem? (i := 465) (by decide +kernel)) (by decide +kernel), ini_X3, (by decide +kernel), (by decide +kernel), (by decide +kernel)⟩, fw_mem (List.mem_of_getElem? (i := 464) (by decide +kernel)) (by decide +kernel), fw_memS (q := (yX3_moverAfter, 10)) (List.mem_of_getElem? (i := 7) (by decide +kernel)) (by decide +kernel), by decide, ⟨_, rfl, rfl⟩⟩
abbrev kX3_shortenSleeps : fw_M := (yX3_shortenSleeps, cX3_shortenSleeps, 3, none, 2, 43)
theorem o_X3_shortenSleeps : fw_kv kX3_shortenSleeps 3 0 := ⟨⟨fw_mem (List.mem_of_getElem? (i := 461) (by decide +kernel)) (by decide +kernel), ini_X3, (by decide +kernel), (by decide +kernel), (by decide +kernel)⟩, fw_mem (List.mem_of_getElem? (i := 460) (by decide +kernel)) (by decide +kernel), fw_memS (q := (yX3_shortenSleeps, 10)) (List.mem_of_getElem? (i := 6) (by decide +kernel)) (by decide +kernel), by decide, ⟨_, rfl, rfl⟩⟩
abbrev kX3_makeTurn : fw_M := (yX3_makeTurn, cX3_makeTurn, 5, (some .int), 4, 90)
theorem o_X3_makeTurn : fw_kv kX3_makeTurn 3 1 := ⟨⟨fw_mem (List.mem_of_getElem? (i := 438) (by decide +kernel)) (by decide +kernel), ini_X3, (by decide +kernel), (by decide +kernel), (by decide +kernel)⟩, fw_mem (List.mem_of_getElem? (i := 436) (by decide +kernel)) (by decide +kernel), fw_mem (List.mem_of_getElem? (i := 437) (by decide +kernel)) (by decide +kernel), by decide, ⟨_, rfl, rfl⟩⟩
abbrev kX7_drawAfter : fw_M := (yX7_drawAfter, cX7_drawAfter, 1, (some .int), 0, 0)
theorem o_X7_drawAfter : fw_ks kX7_drawAfter 1 := ⟨⟨fw_mem (List.mem_of_getElem? (i := 430) (by decide +kernel)) (by decide +kernel), ini_X7, (by decide +kernel), (by decide +kernel), (by decide +kernel)⟩, fw_mem (List.mem_of_getElem? (i := 429) (by decide +kernel)) (by decide +kernel)⟩
abbrev kX7_isDraw : fw_M := (yX7_isDraw, cX7_isDraw, 1, (some .boolean), 0, 0)
theorem o_X7_isDraw : fw_ks kX7_isDraw 1 := ⟨⟨fw_mem (List.mem_of_getElem? (i := 406) (by decide +kernel)) (by decide +kernel), ini_X7, (by decide +kernel), (by decide +kernel), (by decide +kernel)⟩, fw_mem (List.mem_of_getElem? (i := 405) (by decide +kernel)) (by decide +kernel)⟩
abbrev kX7_throwOf : fw_M := (yX7_throwOf, cX7_throwOf, 1, (some .int), 0, 0)
theorem o_X7_throwOf : fw_ks kX7_throwOf 1 := ⟨⟨fw_mem (List.mem_of_getElem? (i := 434) (by decide +kernel)) (by decide +kernel), ini_X7, (by decide +kernel), (by decide +kernel), (by decide +kernel)⟩, fw_mem (List.mem_of_getElem? (i := 433) (by decide +kernel)) (by decide +kernel)⟩
abbrev kX7_nextHome : fw_M := (yX7_nextHome, cX7_nextHome, 5, (some .int), 5, 114)
theorem o_X7_nextHome : fw_kv kX7_nextHome 7 1 := ⟨⟨fw_mem (List.mem_of_getElem? (i := 403) (by decide +kernel)) (by decide +kernel), ini_X7, (by decide +kernel), (by decide +kernel), (by decide +kernel)⟩, fw_mem (List.mem_of_getElem? (i := 401) (by decide +kernel)) (by decide +kernel), fw_mem (List.mem_of_getElem? (i := 402) (by decide +kernel)) (by decide +kernel), by decide, ⟨_, rfl, rfl⟩⟩
abbrev kX7_play : fw_M := (yX7_play, cX7_play, 5, (some .int), 5, 114)
theorem o_X7_play : fw_kv kX7_play 7 2 := ⟨⟨fw_mem (List.mem_of_getElem? (i := 469) (by decide +kernel)) (by decide +kernel), ini_X7, (by decide +kernel), (by decide +kernel), (by decide +kernel)⟩, fw_mem (List.mem_of_getElem? (i := 467) (by decide +kernel)) (by decide +kernel), fw_mem (List.mem_of_getElem? (i := 468) (by decide +kernel)) (by decide +kernel), by decide, ⟨_, rfl, rfl⟩⟩
abbrev kX7_player : fw_M := (yX7_player, cX7_player, 4, (some .int), 3, 65)
theorem o_X7_player : fw_kv kX7_player 7 2 := ⟨⟨fw_mem (List.mem_of_getElem? (i := 346) (by decide +kernel)) (by decide +kernel), ini_X7, (by decide +kernel), (by decide +kernel), (by decide +kernel)⟩, fw_mem (List.mem_of_getElem? (i := 344) (by decide +kernel)) (by decide +kernel), fw_mem (List.mem_of_getElem? (i := 345) (by decide +kernel)) (by decide +kernel), by decide, ⟨_, rfl, rfl⟩⟩
abbrev kX1_bringBack : fw_M := (yX1_bringBack, cX1_bringBack, 3, (some .int), 3, 69)
theorem o_X1_bringBack : fw_kv kX1_bringBack 1 1 := ⟨⟨fw_mem (List.mem_of_getElem? (i := 490) (by decide +kernel)) (by decide +kernel), ini_X1, (by decide +kernel), (by decide +kernel), (by decide +kernel)⟩, fw_mem (List.mem_of_getElem? (i := 488) (by decide +kernel)) (by decide +kernel), fw_mem (List.mem_of_getElem? (i := 489) (by decide +kernel)) (by decide +kernel), by decide, ⟨_, rfl, rfl⟩⟩
abbrev kX7_undo : fw_M := (yX7_undo, cX7_undo, 1, (some .int), 4, 91)
theorem o_X7_undo : fw_kv kX7_undo 7 0 := ⟨⟨fw_mem (List.mem_of_getElem? (i := 486) (by decide +kernel)) (by decide +kernel), ini_X7, (by decide +kernel), (by decide +kernel), (by decide +kernel)⟩, fw_mem (List.mem_of_getElem? (i := 484) (by decide +kernel)) (by decide +kernel), fw_mem (List.mem_of_getElem? (i := 485) (by decide +kernel)) (by decide +kernel), by decide, ⟨_, rfl, rfl⟩⟩
abbrev kL_plays : fw_M := (yL_plays, cL_plays, 10, (some .boolean), 6, 138)
theorem o_L_plays : fw_ks kL_plays 3 := ⟨⟨fw_mem (List.mem_of_getElem? (i := 399) (by decide +kernel)) (by decide +kernel), ini_L, (by decide +kernel), (by decide +kernel), (by decide +kernel)⟩, fw_mem (List.mem_of_getElem? (i := 398) (by decide +kernel)) (by decide +kernel)⟩
abbrev kX3_biteOf : fw_M := (yX3_biteOf, cX3_biteOf, 4, (some (.object "SnakeTrades$Bite")), 1, 21)
theorem o_X3_biteOf : fw_kv kX3_biteOf 3 2 := ⟨⟨fw_mem (List.mem_of_getElem? (i := 358) (by decide +kernel)) (by decide +kernel), ini_X3, (by decide +kernel), (by decide +kernel), (by decide +kernel)⟩, fw_mem (List.mem_of_getElem? (i := 356) (by decide +kernel)) (by decide +kernel), fw_mem (List.mem_of_getElem? (i := 357) (by decide +kernel)) (by decide +kernel), by decide, ⟨_, rfl, rfl⟩⟩
abbrev kX7_bite : fw_M := (yX7_bite, cX7_bite, 5, (some .int), 2, 44)
theorem o_X7_bite : fw_kv kX7_bite 7 3 := ⟨⟨fw_mem (List.mem_of_getElem? (i := 354) (by decide +kernel)) (by decide +kernel), ini_X7, (by decide +kernel), (by decide +kernel), (by decide +kernel)⟩, fw_mem (List.mem_of_getElem? (i := 352) (by decide +kernel)) (by decide +kernel), fw_mem (List.mem_of_getElem? (i := 353) (by decide +kernel)) (by decide +kernel), by decide, ⟨_, rfl, rfl⟩⟩
abbrev kX3_askedBy : fw_M := (yX3_askedBy, cX3_askedBy, 5, (some .int), 1, 21)
theorem o_X3_askedBy : fw_kv kX3_askedBy 3 2 := ⟨⟨fw_mem (List.mem_of_getElem? (i := 537) (by decide +kernel)) (by decide +kernel), ini_X3, (by decide +kernel), (by decide +kernel), (by decide +kernel)⟩, fw_mem (List.mem_of_getElem? (i := 535) (by decide +kernel)) (by decide +kernel), fw_mem (List.mem_of_getElem? (i := 536) (by decide +kernel)) (by decide +kernel), by decide, ⟨_, rfl, rfl⟩⟩
abbrev kX0_wasHeldBy : fw_M := (yX0_wasHeldBy, cX0_wasHeldBy, 2, (some .boolean), 0, 0)
theorem o_X0_wasHeldBy : fw_kv kX0_wasHeldBy 0 1 := ⟨⟨fw_mem (List.mem_of_getElem? (i := 533) (by decide +kernel)) (by decide +kernel), ini_X0, (by decide +kernel), (by decide +kernel), (by decide +kernel)⟩, fw_mem (List.mem_of_getElem? (i := 531) (by decide +kernel)) (by decide +kernel), fw_mem (List.mem_of_getElem? (i := 532) (by decide +kernel)) (by decide +kernel), by decide, ⟨_, rfl, rfl⟩⟩
abbrev kX3_obstacle : fw_M := (yX3_obstacle, cX3_obstacle, 8, (some .int), 2, 45)
theorem o_X3_obstacle : fw_kv kX3_obstacle 3 4 := ⟨⟨fw_mem (List.mem_of_getElem? (i := 528) (by decide +kernel)) (by decide +kernel), ini_X3, (by decide +kernel), (by decide +kernel), (by decide +kernel)⟩, fw_mem (List.mem_of_getElem? (i := 526) (by decide +kernel)) (by decide +kernel), fw_mem (List.mem_of_getElem? (i := 527) (by decide +kernel)) (by decide +kernel), by decide, ⟨_, rfl, rfl⟩⟩
abbrev kX7_cheapest : fw_M := (yX7_cheapest, cX7_cheapest, 8, (some .int), 3, 72)
theorem o_X7_cheapest : fw_kv kX7_cheapest 7 2 := ⟨⟨fw_mem (List.mem_of_getElem? (i := 555) (by decide +kernel)) (by decide +kernel), ini_X7, (by decide +kernel), (by decide +kernel), (by decide +kernel)⟩, fw_mem (List.mem_of_getElem? (i := 553) (by decide +kernel)) (by decide +kernel), fw_mem (List.mem_of_getElem? (i := 554) (by decide +kernel)) (by decide +kernel), by decide, ⟨_, rfl, rfl⟩⟩
abbrev kX0_passTo : fw_M := (yX0_passTo, cX0_passTo, 2, none, 0, 0)
theorem o_X0_passTo : fw_kv kX0_passTo 0 1 := ⟨⟨fw_mem (List.mem_of_getElem? (i := 547) (by decide +kernel)) (by decide +kernel), ini_X0, (by decide +kernel), (by decide +kernel), (by decide +kernel)⟩, fw_mem (List.mem_of_getElem? (i := 545) (by decide +kernel)) (by decide +kernel), fw_mem (List.mem_of_getElem? (i := 546) (by decide +kernel)) (by decide +kernel), by decide, ⟨_, rfl, rfl⟩⟩
abbrev kX2_remove : fw_M := (yX2_remove, cX2_remove, 5, none, 0, 0)
theorem o_X2_remove : fw_kv kX2_remove 2 1 := ⟨⟨fw_mem (List.mem_of_getElem? (i := 551) (by decide +kernel)) (by decide +kernel), ini_X2, (by decide +kernel), (by decide +kernel), (by decide +kernel)⟩, fw_mem (List.mem_of_getElem? (i := 549) (by decide +kernel)) (by decide +kernel), fw_mem (List.mem_of_getElem? (i := 550) (by decide +kernel)) (by decide +kernel), by decide, ⟨_, rfl, rfl⟩⟩
abbrev kX3_trade : fw_M := (yX3_trade, cX3_trade, 10, (some .int), 3, 72)
theorem o_X3_trade : fw_kv kX3_trade 3 4 := ⟨⟨fw_mem (List.mem_of_getElem? (i := 541) (by decide +kernel)) (by decide +kernel), ini_X3, (by decide +kernel), (by decide +kernel), (by decide +kernel)⟩, fw_mem (List.mem_of_getElem? (i := 539) (by decide +kernel)) (by decide +kernel), fw_mem (List.mem_of_getElem? (i := 540) (by decide +kernel)) (by decide +kernel), by decide, ⟨_, rfl, rfl⟩⟩
abbrev kX7_sell : fw_M := (yX7_sell, cX7_sell, 5, (some .int), 4, 101)
theorem o_X7_sell : fw_kv kX7_sell 7 4 := ⟨⟨fw_mem (List.mem_of_getElem? (i := 524) (by decide +kernel)) (by decide +kernel), ini_X7, (by decide +kernel), (by decide +kernel), (by decide +kernel)⟩, fw_mem (List.mem_of_getElem? (i := 522) (by decide +kernel)) (by decide +kernel), fw_mem (List.mem_of_getElem? (i := 523) (by decide +kernel)) (by decide +kernel), by decide, ⟨_, rfl, rfl⟩⟩
abbrev kX7_why : fw_M := (yX7_why, cX7_why, 5, (some .int), 3, 72)
theorem o_X7_why : fw_kv kX7_why 7 4 := ⟨⟨fw_mem (List.mem_of_getElem? (i := 560) (by decide +kernel)) (by decide +kernel), ini_X7, (by decide +kernel), (by decide +kernel), (by decide +kernel)⟩, fw_mem (List.mem_of_getElem? (i := 558) (by decide +kernel)) (by decide +kernel), fw_mem (List.mem_of_getElem? (i := 559) (by decide +kernel)) (by decide +kernel), by decide, ⟨_, rfl, rfl⟩⟩
abbrev kL_sells : fw_M := (yL_sells, cL_sells, 16, (some .boolean), 5, 125)
theorem o_L_sells : fw_ks kL_sells 2 := ⟨⟨fw_mem (List.mem_of_getElem? (i := 520) (by decide +kernel)) (by decide +kernel), ini_L, (by decide +kernel), (by decide +kernel), (by decide +kernel)⟩, fw_mem (List.mem_of_getElem? (i := 519) (by decide +kernel)) (by decide +kernel)⟩
abbrev kX7_turn : fw_M := (yX7_turn, cX7_turn, 2, (some .int), 5, 114)
theorem o_X7_turn : fw_kv kX7_turn 7 1 := ⟨⟨fw_mem (List.mem_of_getElem? (i := 516) (by decide +kernel)) (by decide +kernel), ini_X7, (by decide +kernel), (by decide +kernel), (by decide +kernel)⟩, fw_mem (List.mem_of_getElem? (i := 514) (by decide +kernel)) (by decide +kernel), fw_mem (List.mem_of_getElem? (i := 515) (by decide +kernel)) (by decide +kernel), by decide, ⟨_, rfl, rfl⟩⟩
abbrev kL_turns : fw_M := (yL_turns, cL_turns, 15, (some .boolean), 6, 135)
theorem o_L_turns : fw_ks kL_turns 2 := ⟨⟨fw_mem (List.mem_of_getElem? (i := 512) (by decide +kernel)) (by decide +kernel), ini_L, (by decide +kernel), (by decide +kernel), (by decide +kernel)⟩, fw_mem (List.mem_of_getElem? (i := 511) (by decide +kernel)) (by decide +kernel)⟩
abbrev kL_act : fw_M := (yL_act, cL_act, 9, (some .boolean), 7, 169)
theorem o_L_act : fw_ks kL_act 3 := ⟨⟨fw_mem (List.mem_of_getElem? (i := 493) (by decide +kernel)) (by decide +kernel), ini_L, (by decide +kernel), (by decide +kernel), (by decide +kernel)⟩, fw_mem (List.mem_of_getElem? (i := 492) (by decide +kernel)) (by decide +kernel)⟩
abbrev kL_cell : fw_M := (yL_cell, cL_cell, 2, (some .int), 0, 0)
theorem o_L_cell : fw_ks kL_cell 2 := ⟨⟨fw_mem (List.mem_of_getElem? (i := 333) (by decide +kernel)) (by decide +kernel), ini_L, (by decide +kernel), (by decide +kernel), (by decide +kernel)⟩, fw_mem (List.mem_of_getElem? (i := 332) (by decide +kernel)) (by decide +kernel)⟩
abbrev kX5_see : fw_M := (yX5_see, cX5_see, 3, none, 0, 0)
theorem o_X5_see : fw_kv kX5_see 5 2 := ⟨⟨fw_mem (List.mem_of_getElem? (i := 301) (by decide +kernel)) (by decide +kernel), ini_X5, (by decide +kernel), (by decide +kernel), (by decide +kernel)⟩, fw_mem (List.mem_of_getElem? (i := 300) (by decide +kernel)) (by decide +kernel), fw_memS (q := (yX5_see, 3)) (List.mem_of_getElem? (i := 1) (by decide +kernel)) (by decide +kernel), by decide, ⟨_, rfl, rfl⟩⟩
abbrev kX5_seeSquaresBefore : fw_M := (yX5_seeSquaresBefore, cX5_seeSquaresBefore, 4, none, 1, 22)
theorem o_X5_seeSquaresBefore : fw_kv kX5_seeSquaresBefore 5 2 := ⟨⟨fw_mem (List.mem_of_getElem? (i := 329) (by decide +kernel)) (by decide +kernel), ini_X5, (by decide +kernel), (by decide +kernel), (by decide +kernel)⟩, fw_mem (List.mem_of_getElem? (i := 328) (by decide +kernel)) (by decide +kernel), fw_memS (q := (yX5_seeSquaresBefore, 3)) (List.mem_of_getElem? (i := 4) (by decide +kernel)) (by decide +kernel), by decide, ⟨_, rfl, rfl⟩⟩
abbrev kX5_throwsAt : fw_M := (yX5_throwsAt, cX5_throwsAt, 2, (some .int), 0, 0)
theorem o_X5_throwsAt : fw_kv kX5_throwsAt 5 1 := ⟨⟨fw_mem (List.mem_of_getElem? (i := 305) (by decide +kernel)) (by decide +kernel), ini_X5, (by decide +kernel), (by decide +kernel), (by decide +kernel)⟩, fw_mem (List.mem_of_getElem? (i := 304) (by decide +kernel)) (by decide +kernel), fw_memS (q := (yX5_throwsAt, 3)) (List.mem_of_getElem? (i := 2) (by decide +kernel)) (by decide +kernel), by decide, ⟨_, rfl, rfl⟩⟩
abbrev kX5_seeLandingsThatLeadTo : fw_M := (yX5_seeLandingsThatLeadTo, cX5_seeLandingsThatLeadTo, 6, none, 3, 66)
theorem o_X5_seeLandingsThatLeadTo : fw_kv kX5_seeLandingsThatLeadTo 5 2 := ⟨⟨fw_mem (List.mem_of_getElem? (i := 324) (by decide +kernel)) (by decide +kernel), ini_X5, (by decide +kernel), (by decide +kernel), (by decide +kernel)⟩, fw_mem (List.mem_of_getElem? (i := 323) (by decide +kernel)) (by decide +kernel), fw_memS (q := (yX5_seeLandingsThatLeadTo, 3)) (List.mem_of_getElem? (i := 3) (by decide +kernel)) (by decide +kernel), by decide, ⟨_, rfl, rfl⟩⟩
abbrev kX5_start : fw_M := (yX5_start, cX5_start, 3, none, 1, 22)
theorem o_X5_start : fw_kv kX5_start 5 1 := ⟨⟨fw_mem (List.mem_of_getElem? (i := 297) (by decide +kernel)) (by decide +kernel), ini_X5, (by decide +kernel), (by decide +kernel), (by decide +kernel)⟩, fw_mem (List.mem_of_getElem? (i := 296) (by decide +kernel)) (by decide +kernel), fw_memS (q := (yX5_start, 3)) (List.mem_of_getElem? (i := 0) (by decide +kernel)) (by decide +kernel), by decide, ⟨_, rfl, rfl⟩⟩
abbrev kX5_backTo : fw_M := (yX5_backTo, cX5_backTo, 5, (some .int), 4, 91)
theorem o_X5_backTo : fw_kv kX5_backTo 5 2 := ⟨⟨fw_mem (List.mem_of_getElem? (i := 320) (by decide +kernel)) (by decide +kernel), ini_X5, (by decide +kernel), (by decide +kernel), (by decide +kernel)⟩, fw_mem (List.mem_of_getElem? (i := 318) (by decide +kernel)) (by decide +kernel), fw_mem (List.mem_of_getElem? (i := 319) (by decide +kernel)) (by decide +kernel), by decide, ⟨_, rfl, rfl⟩⟩
abbrev kX3_beginningAfter : fw_M := (yX3_beginningAfter, cX3_beginningAfter, 3, (some .int), 3, 66)
theorem o_X3_beginningAfter : fw_kv kX3_beginningAfter 3 1 := ⟨⟨fw_mem (List.mem_of_getElem? (i := 312) (by decide +kernel)) (by decide +kernel), ini_X3, (by decide +kernel), (by decide +kernel), (by decide +kernel)⟩, fw_mem (List.mem_of_getElem? (i := 310) (by decide +kernel)) (by decide +kernel), fw_mem (List.mem_of_getElem? (i := 311) (by decide +kernel)) (by decide +kernel), by decide, ⟨_, rfl, rfl⟩⟩
abbrev kX5_onFrom : fw_M := (yX5_onFrom, cX5_onFrom, 6, (some .int), 4, 88)
theorem o_X5_onFrom : fw_kv kX5_onFrom 5 2 := ⟨⟨fw_mem (List.mem_of_getElem? (i := 293) (by decide +kernel)) (by decide +kernel), ini_X5, (by decide +kernel), (by decide +kernel), (by decide +kernel)⟩, fw_mem (List.mem_of_getElem? (i := 291) (by decide +kernel)) (by decide +kernel), fw_mem (List.mem_of_getElem? (i := 292) (by decide +kernel)) (by decide +kernel), by decide, ⟨_, rfl, rfl⟩⟩
abbrev kX7_fewest : fw_M := (yX7_fewest, cX7_fewest, 5, (some .int), 5, 115)
theorem o_X7_fewest : fw_kv kX7_fewest 7 2 := ⟨⟨fw_mem (List.mem_of_getElem? (i := 275) (by decide +kernel)) (by decide +kernel), ini_X7, (by decide +kernel), (by decide +kernel), (by decide +kernel)⟩, fw_mem (List.mem_of_getElem? (i := 273) (by decide +kernel)) (by decide +kernel), fw_mem (List.mem_of_getElem? (i := 274) (by decide +kernel)) (by decide +kernel), by decide, ⟨_, rfl, rfl⟩⟩
abbrev kX7_progress : fw_M := (yX7_progress, cX7_progress, 3, (some .double), 3, 65)
theorem o_X7_progress : fw_kv kX7_progress 7 1 := ⟨⟨fw_mem (List.mem_of_getElem? (i := 379) (by decide +kernel)) (by decide +kernel), ini_X7, (by decide +kernel), (by decide +kernel), (by decide +kernel)⟩, fw_mem (List.mem_of_getElem? (i := 377) (by decide +kernel)) (by decide +kernel), fw_mem (List.mem_of_getElem? (i := 378) (by decide +kernel)) (by decide +kernel), by decide, ⟨_, rfl, rfl⟩⟩
abbrev kL_ones : fw_M := (yL_ones, cL_ones, 1, (some .int), 0, 0)
theorem o_L_ones : fw_ks kL_ones 1 := ⟨⟨fw_mem (List.mem_of_getElem? (i := 362) (by decide +kernel)) (by decide +kernel), ini_L, (by decide +kernel), (by decide +kernel), (by decide +kernel)⟩, fw_mem (List.mem_of_getElem? (i := 361) (by decide +kernel)) (by decide +kernel)⟩
abbrev kL_isPlayer : fw_M := (yL_isPlayer, cL_isPlayer, 8, (some .boolean), 6, 139)
theorem o_L_isPlayer : fw_ks kL_isPlayer 2 := ⟨⟨fw_mem (List.mem_of_getElem? (i := 350) (by decide +kernel)) (by decide +kernel), ini_L, (by decide +kernel), (by decide +kernel), (by decide +kernel)⟩, fw_mem (List.mem_of_getElem? (i := 349) (by decide +kernel)) (by decide +kernel)⟩
abbrev kL_holds : fw_M := (yL_holds, cL_holds, 10, (some .boolean), 7, 166)
theorem o_L_holds : fw_ks kL_holds 1 := ⟨⟨fw_mem (List.mem_of_getElem? (i := 342) (by decide +kernel)) (by decide +kernel), ini_L, (by decide +kernel), (by decide +kernel), (by decide +kernel)⟩, fw_mem (List.mem_of_getElem? (i := 341) (by decide +kernel)) (by decide +kernel)⟩
abbrev kX0_init : fw_M := (yX0_init, cX0_init, 1, none, 1, 12)
theorem o_X0_init : fw_ki kX0_init 0 := ⟨⟨fw_mem (List.mem_of_getElem? (i := 35) (by decide +kernel)) (by decide +kernel), ini_X0, (by decide +kernel), (by decide +kernel), (by decide +kernel)⟩, fw_mem (List.mem_of_getElem? (i := 34) (by decide +kernel)) (by decide +kernel), rfl⟩
abbrev kX2_init : fw_M := (yX2_init, cX2_init, 2, none, 2, 32)
theorem o_X2_init : fw_ki kX2_init 0 := ⟨⟨fw_mem (List.mem_of_getElem? (i := 28) (by decide +kernel)) (by decide +kernel), ini_X2, (by decide +kernel), (by decide +kernel), (by decide +kernel)⟩, fw_mem (List.mem_of_getElem? (i := 27) (by decide +kernel)) (by decide +kernel), rfl⟩
abbrev kX6_init : fw_M := (yX6_init, cX6_init, 1, none, 1, 12)
theorem o_X6_init : fw_ki kX6_init 0 := ⟨⟨fw_mem (List.mem_of_getElem? (i := 95) (by decide +kernel)) (by decide +kernel), ini_X6, (by decide +kernel), (by decide +kernel), (by decide +kernel)⟩, fw_mem (List.mem_of_getElem? (i := 94) (by decide +kernel)) (by decide +kernel), rfl⟩
abbrev kX3_init : fw_M := (yX3_init, cX3_init, 2, none, 3, 53)
theorem o_X3_init : fw_ki kX3_init 0 := ⟨⟨fw_mem (List.mem_of_getElem? (i := 21) (by decide +kernel)) (by decide +kernel), ini_X3, (by decide +kernel), (by decide +kernel), (by decide +kernel)⟩, fw_mem (List.mem_of_getElem? (i := 20) (by decide +kernel)) (by decide +kernel), rfl⟩
abbrev kX1_init : fw_M := (yX1_init, cX1_init, 2, none, 4, 74)
theorem o_X1_init : fw_ki kX1_init 0 := ⟨⟨fw_mem (List.mem_of_getElem? (i := 159) (by decide +kernel)) (by decide +kernel), ini_X1, (by decide +kernel), (by decide +kernel), (by decide +kernel)⟩, fw_mem (List.mem_of_getElem? (i := 158) (by decide +kernel)) (by decide +kernel), rfl⟩
abbrev kX4_init : fw_M := (yX4_init, cX4_init, 1, none, 1, 12)
theorem o_X4_init : fw_ki kX4_init 0 := ⟨⟨fw_mem (List.mem_of_getElem? (i := 176) (by decide +kernel)) (by decide +kernel), ini_X4, (by decide +kernel), (by decide +kernel), (by decide +kernel)⟩, fw_mem (List.mem_of_getElem? (i := 175) (by decide +kernel)) (by decide +kernel), rfl⟩
abbrev kX5_init : fw_M := (yX5_init, cX5_init, 1, none, 1, 12)
theorem o_X5_init : fw_ki kX5_init 0 := ⟨⟨fw_mem (List.mem_of_getElem? (i := 190) (by decide +kernel)) (by decide +kernel), ini_X5, (by decide +kernel), (by decide +kernel), (by decide +kernel)⟩, fw_mem (List.mem_of_getElem? (i := 189) (by decide +kernel)) (by decide +kernel), rfl⟩
abbrev kX7_init : fw_M := (yX7_init, cX7_init, 1, none, 5, 95)
theorem o_X7_init : fw_ki kX7_init 0 := ⟨⟨fw_mem (List.mem_of_getElem? (i := 13) (by decide +kernel)) (by decide +kernel), ini_X7, (by decide +kernel), (by decide +kernel), (by decide +kernel)⟩, fw_mem (List.mem_of_getElem? (i := 12) (by decide +kernel)) (by decide +kernel), rfl⟩
