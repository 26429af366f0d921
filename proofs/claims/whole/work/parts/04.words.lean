theorem goodL : ∀ w ∈ wsL_law, (w.onTables && w.keeps) = true ∨ ∃ ty, w = .arrayClass ty := fun w hw => good_of_word (List.all_eq_true.mp (show wsL_law.all goodWord = true by decide +kernel) w hw)
def FL (own : String) (idx ci j : Nat) : Prop := ∃ (C : String) (T : u_T) (N : Nat), vwCl[ci]? = some (C, T, N) ∧ j < N ∧ Cond.fieldLink own idx (T j).1 (T j).2.1 (T j).2.2.1 ∈ wsL_law
def KL (own : String) (idx : Nat) (v : Int32) : Prop := Cond.constant own idx v ∈ wsL_law
def K2 (own : String) (idx : Nat) (v : Int64) : Prop := Cond.constantLong own idx v ∈ wsL_law
def ML (own : String) (idx : Nat) (y : MethodName) : Prop := Cond.methodLink own idx y ∈ wsL_law
/-- a method: its code is among the words, its class is initialised, its name is plain, so many parameters -/
def CD (y : MethodName) (cc : ByteArray) (maxL : Nat) (ret : Option FieldType) (n : Nat) : Prop := Cond.code y cc maxL ret ∈ wsL_law ∧ Cond.initialized y.cls ∈ wsL_law ∧ (y.cls ≠ "java/lang/invoke/MethodHandle" ∧ y.cls ≠ "java/lang/invoke/VarHandle" ∧ (parseMethodDescriptor y.desc).map (fun d => d.parameters.length) = some n) ∧ maxL ≤ 20 ∧ plainName y.cls = true
def CV (y : MethodName) : Prop := Cond.instanceMethod y ∈ wsL_law ∧ Cond.selects y.cls y y ∈ wsL_law
def CS (y : MethodName) : Prop := Cond.static y ∈ wsL_law

theorem ml_L_9 : ML RL 9 yX7_init := List.mem_of_getElem? (i := 6) (by decide +kernel)
theorem ml_X7_1 : ML RX7 1 objectInit := List.mem_of_getElem? (i := 9) (by decide +kernel)
theorem fl_X7_11 : FL RX7 11 7 0 := ⟨RX7, TX7, 11, rfl, by decide, List.mem_of_getElem? (i := 13) (by decide +kernel)⟩
theorem fl_X7_21 : FL RX7 21 7 1 := ⟨RX7, TX7, 11, rfl, by decide, List.mem_of_getElem? (i := 20) (by decide +kernel)⟩
theorem fl_X7_30 : FL RX7 30 7 2 := ⟨RX7, TX7, 11, rfl, by decide, List.mem_of_getElem? (i := 24) (by decide +kernel)⟩
theorem fl_X7_39 : FL RX7 39 7 3 := ⟨RX7, TX7, 11, rfl, by decide, List.mem_of_getElem? (i := 28) (by decide +kernel)⟩
theorem fl_X7_43 : FL RX7 43 7 4 := ⟨RX7, TX7, 11, rfl, by decide, List.mem_of_getElem? (i := 29) (by decide +kernel)⟩
theorem fl_X7_46 : FL RX7 46 7 5 := ⟨RX7, TX7, 11, rfl, by decide, List.mem_of_getElem? (i := 30) (by decide +kernel)⟩
theorem fl_X7_51 : FL RX7 51 7 6 := ⟨RX7, TX7, 11, rfl, by decide, List.mem_of_getElem? (i := 32) (by decide +kernel)⟩
theorem fl_X7_58 : FL RX7 58 7 7 := ⟨RX7, TX7, 11, rfl, by decide, List.mem_of_getElem? (i := 36) (by decide +kernel)⟩
theorem fl_X7_63 : FL RX7 63 7 8 := ⟨RX7, TX7, 11, rfl, by decide, List.mem_of_getElem? (i := 39) (by decide +kernel)⟩
theorem ml_X7_15 : ML RX7 15 yX4_init := List.mem_of_getElem? (i := 40) (by decide +kernel)
theorem ml_X4_5 : ML RX4 5 objectInit := List.mem_of_getElem? (i := 43) (by decide +kernel)
theorem fl_X4_11 : FL RX4 11 4 0 := ⟨RX4, TX4, 5, rfl, by decide, List.mem_of_getElem? (i := 44) (by decide +kernel)⟩
theorem fl_X4_15 : FL RX4 15 4 4 := ⟨RX4, TX4, 5, rfl, by decide, List.mem_of_getElem? (i := 45) (by decide +kernel)⟩
theorem ml_X3_3 : ML RX3 3 objectInit := List.mem_of_getElem? (i := 48) (by decide +kernel)
theorem fl_X3_9 : FL RX3 9 3 0 := ⟨RX3, TX3, 2, rfl, by decide, List.mem_of_getElem? (i := 49) (by decide +kernel)⟩
theorem ml_X7_27 : ML RX7 27 yX5_init := List.mem_of_getElem? (i := 50) (by decide +kernel)
theorem ml_X5_3 : ML RX5 3 objectInit := List.mem_of_getElem? (i := 53) (by decide +kernel)
theorem fl_X5_9 : FL RX5 9 5 2 := ⟨RX5, TX5, 5, rfl, by decide, List.mem_of_getElem? (i := 54) (by decide +kernel)⟩
theorem fl_X5_15 : FL RX5 15 5 0 := ⟨RX5, TX5, 5, rfl, by decide, List.mem_of_getElem? (i := 55) (by decide +kernel)⟩
theorem ml_X7_36 : ML RX7 36 yX6_init := List.mem_of_getElem? (i := 56) (by decide +kernel)
theorem ml_X6_3 : ML RX6 3 objectInit := List.mem_of_getElem? (i := 59) (by decide +kernel)
theorem fl_X6_9 : FL RX6 9 6 0 := ⟨RX6, TX6, 13, rfl, by decide, List.mem_of_getElem? (i := 60) (by decide +kernel)⟩
theorem fl_X6_17 : FL RX6 17 6 1 := ⟨RX6, TX6, 13, rfl, by decide, List.mem_of_getElem? (i := 62) (by decide +kernel)⟩
theorem fl_X6_22 : FL RX6 22 6 2 := ⟨RX6, TX6, 13, rfl, by decide, List.mem_of_getElem? (i := 65) (by decide +kernel)⟩
theorem fl_X6_26 : FL RX6 26 6 3 := ⟨RX6, TX6, 13, rfl, by decide, List.mem_of_getElem? (i := 66) (by decide +kernel)⟩
theorem fl_X6_29 : FL RX6 29 6 4 := ⟨RX6, TX6, 13, rfl, by decide, List.mem_of_getElem? (i := 67) (by decide +kernel)⟩
theorem fl_X6_32 : FL RX6 32 6 5 := ⟨RX6, TX6, 13, rfl, by decide, List.mem_of_getElem? (i := 68) (by decide +kernel)⟩
theorem kc_X6_35 : KL RX6 35 (-1000000005) := List.mem_of_getElem? (i := 69) (by decide +kernel)
theorem fl_X6_42 : FL RX6 42 6 11 := ⟨RX6, TX6, 13, rfl, by decide, List.mem_of_getElem? (i := 70) (by decide +kernel)⟩
theorem ml_X0_3 : ML RX0 3 objectInit := List.mem_of_getElem? (i := 73) (by decide +kernel)
theorem ml_X6_36 : ML RX6 36 yJ7_fill_53178 := List.mem_of_getElem? (i := 74) (by decide +kernel)
theorem ml_X1_3 : ML RX1 3 objectInit := List.mem_of_getElem? (i := 80) (by decide +kernel)
theorem fl_X1_9 : FL RX1 9 1 0 := ⟨RX1, TX1, 3, rfl, by decide, List.mem_of_getElem? (i := 81) (by decide +kernel)⟩
theorem fl_X1_15 : FL RX1 15 1 1 := ⟨RX1, TX1, 3, rfl, by decide, List.mem_of_getElem? (i := 82) (by decide +kernel)⟩
theorem ml_X2_1 : ML RX2 1 objectInit := List.mem_of_getElem? (i := 85) (by decide +kernel)
theorem fl_X2_10 : FL RX2 10 2 0 := ⟨RX2, TX2, 4, rfl, by decide, List.mem_of_getElem? (i := 87) (by decide +kernel)⟩
theorem fl_X2_19 : FL RX2 19 2 1 := ⟨RX2, TX2, 4, rfl, by decide, List.mem_of_getElem? (i := 89) (by decide +kernel)⟩
theorem ml_L_12 : ML RL 12 yX8_init := List.mem_of_getElem? (i := 90) (by decide +kernel)
theorem ml_X8_1 : ML RX8 1 objectInit := List.mem_of_getElem? (i := 93) (by decide +kernel)
theorem fl_X8_7 : FL RX8 7 8 0 := ⟨RX8, TX8, 31, rfl, by decide, List.mem_of_getElem? (i := 94) (by decide +kernel)⟩
theorem fl_X8_13 : FL RX8 13 8 1 := ⟨RX8, TX8, 31, rfl, by decide, List.mem_of_getElem? (i := 95) (by decide +kernel)⟩
theorem fl_X8_16 : FL RX8 16 8 2 := ⟨RX8, TX8, 31, rfl, by decide, List.mem_of_getElem? (i := 96) (by decide +kernel)⟩
theorem fl_X8_19 : FL RX8 19 8 4 := ⟨RX8, TX8, 31, rfl, by decide, List.mem_of_getElem? (i := 97) (by decide +kernel)⟩
theorem fl_X8_22 : FL RX8 22 8 5 := ⟨RX8, TX8, 31, rfl, by decide, List.mem_of_getElem? (i := 98) (by decide +kernel)⟩
theorem fl_X8_25 : FL RX8 25 8 6 := ⟨RX8, TX8, 31, rfl, by decide, List.mem_of_getElem? (i := 99) (by decide +kernel)⟩
theorem fl_X8_28 : FL RX8 28 8 7 := ⟨RX8, TX8, 31, rfl, by decide, List.mem_of_getElem? (i := 100) (by decide +kernel)⟩
theorem fl_X8_31 : FL RX8 31 8 8 := ⟨RX8, TX8, 31, rfl, by decide, List.mem_of_getElem? (i := 101) (by decide +kernel)⟩
theorem fl_X8_34 : FL RX8 34 8 9 := ⟨RX8, TX8, 31, rfl, by decide, List.mem_of_getElem? (i := 102) (by decide +kernel)⟩
theorem fl_X8_37 : FL RX8 37 8 10 := ⟨RX8, TX8, 31, rfl, by decide, List.mem_of_getElem? (i := 103) (by decide +kernel)⟩
theorem fl_X8_40 : FL RX8 40 8 11 := ⟨RX8, TX8, 31, rfl, by decide, List.mem_of_getElem? (i := 104) (by decide +kernel)⟩
theorem fl_X8_43 : FL RX8 43 8 12 := ⟨RX8, TX8, 31, rfl, by decide, List.mem_of_getElem? (i := 105) (by decide +kernel)⟩
theorem fl_X8_46 : FL RX8 46 8 13 := ⟨RX8, TX8, 31, rfl, by decide, List.mem_of_getElem? (i := 106) (by decide +kernel)⟩
theorem fl_X8_49 : FL RX8 49 8 25 := ⟨RX8, TX8, 31, rfl, by decide, List.mem_of_getElem? (i := 107) (by decide +kernel)⟩
theorem fl_X8_52 : FL RX8 52 8 26 := ⟨RX8, TX8, 31, rfl, by decide, List.mem_of_getElem? (i := 108) (by decide +kernel)⟩
theorem fl_X8_55 : FL RX8 55 8 27 := ⟨RX8, TX8, 31, rfl, by decide, List.mem_of_getElem? (i := 109) (by decide +kernel)⟩
theorem fl_X8_58 : FL RX8 58 8 28 := ⟨RX8, TX8, 31, rfl, by decide, List.mem_of_getElem? (i := 110) (by decide +kernel)⟩
theorem fl_X8_61 : FL RX8 61 8 30 := ⟨RX8, TX8, 31, rfl, by decide, List.mem_of_getElem? (i := 111) (by decide +kernel)⟩
theorem ml_L_13 : ML RL 13 yX7_mule := List.mem_of_getElem? (i := 112) (by decide +kernel)
theorem kc_X7_75 : KL RX7 75 (-1000000001) := List.mem_of_getElem? (i := 116) (by decide +kernel)
theorem fl_X7_76 : FL RX7 76 6 6 := ⟨RX6, TX6, 13, rfl, by decide, List.mem_of_getElem? (i := 117) (by decide +kernel)⟩
theorem kc_X7_80 : KL RX7 80 (-1000000003) := List.mem_of_getElem? (i := 118) (by decide +kernel)
theorem ml_X7_67 : ML RX7 67 yX7_isKind := List.mem_of_getElem? (i := 119) (by decide +kernel)
theorem ml_X7_71 : ML RX7 71 yX7_within := List.mem_of_getElem? (i := 122) (by decide +kernel)
theorem ml_X7_81 : ML RX7 81 yX6_addMule := List.mem_of_getElem? (i := 125) (by decide +kernel)
theorem fl_X6_46 : FL RX6 46 6 6 := ⟨RX6, TX6, 13, rfl, by decide, List.mem_of_getElem? (i := 129) (by decide +kernel)⟩
theorem fl_X6_74 : FL RX6 74 0 0 := ⟨RX0, TX0, 5, rfl, by decide, List.mem_of_getElem? (i := 130) (by decide +kernel)⟩
theorem fl_X6_77 : FL RX6 77 0 1 := ⟨RX0, TX0, 5, rfl, by decide, List.mem_of_getElem? (i := 131) (by decide +kernel)⟩
theorem fl_X6_80 : FL RX6 80 0 2 := ⟨RX0, TX0, 5, rfl, by decide, List.mem_of_getElem? (i := 132) (by decide +kernel)⟩
theorem fl_X6_83 : FL RX6 83 0 3 := ⟨RX0, TX0, 5, rfl, by decide, List.mem_of_getElem? (i := 133) (by decide +kernel)⟩
theorem fl_X6_86 : FL RX6 86 0 4 := ⟨RX0, TX0, 5, rfl, by decide, List.mem_of_getElem? (i := 134) (by decide +kernel)⟩
theorem ml_L_17 : ML RL 17 yX8_mule := List.mem_of_getElem? (i := 135) (by decide +kernel)
theorem k2_X8_76 : K2 RX8 76 (5) := List.mem_of_getElem? (i := 139) (by decide +kernel)
theorem k2_X8_78 : K2 RX8 78 (9) := List.mem_of_getElem? (i := 140) (by decide +kernel)
theorem k2_X8_80 : K2 RX8 80 (9999) := List.mem_of_getElem? (i := 141) (by decide +kernel)
theorem k2_X8_82 : K2 RX8 82 (50) := List.mem_of_getElem? (i := 142) (by decide +kernel)
theorem kc_X8_84 : KL RX8 84 (-1000000001) := List.mem_of_getElem? (i := 143) (by decide +kernel)
theorem kc_X8_85 : KL RX8 85 (-1000000003) := List.mem_of_getElem? (i := 144) (by decide +kernel)
theorem ml_X8_65 : ML RX8 65 yX8_isIn := List.mem_of_getElem? (i := 145) (by decide +kernel)
theorem ml_X8_86 : ML RX8 86 yX8_comes := List.mem_of_getElem? (i := 148) (by decide +kernel)
theorem ml_X8_72 : ML RX8 72 yX8_sets := List.mem_of_getElem? (i := 152) (by decide +kernel)
theorem ml_L_18 : ML RL 18 yX7_told := List.mem_of_getElem? (i := 156) (by decide +kernel)
theorem fl_X7_88 : FL RX7 88 6 1 := ⟨RX6, TX6, 13, rfl, by decide, List.mem_of_getElem? (i := 160) (by decide +kernel)⟩
theorem fl_X7_92 : FL RX7 92 0 0 := ⟨RX0, TX0, 5, rfl, by decide, List.mem_of_getElem? (i := 161) (by decide +kernel)⟩
theorem fl_X7_97 : FL RX7 97 0 1 := ⟨RX0, TX0, 5, rfl, by decide, List.mem_of_getElem? (i := 162) (by decide +kernel)⟩
theorem fl_X7_100 : FL RX7 100 0 2 := ⟨RX0, TX0, 5, rfl, by decide, List.mem_of_getElem? (i := 163) (by decide +kernel)⟩
theorem fl_X7_103 : FL RX7 103 0 3 := ⟨RX0, TX0, 5, rfl, by decide, List.mem_of_getElem? (i := 164) (by decide +kernel)⟩
theorem fl_X7_106 : FL RX7 106 0 4 := ⟨RX0, TX0, 5, rfl, by decide, List.mem_of_getElem? (i := 165) (by decide +kernel)⟩
theorem ml_X7_85 : ML RX7 85 yX7_isMule := List.mem_of_getElem? (i := 166) (by decide +kernel)
theorem ml_X7_109 : ML RX7 109 yX6_leaksOf := List.mem_of_getElem? (i := 170) (by decide +kernel)
theorem ml_X6_98 : ML RX6 98 yX6_given := List.mem_of_getElem? (i := 174) (by decide +kernel)
theorem ml_X6_114 : ML RX6 114 yX4_give := List.mem_of_getElem? (i := 178) (by decide +kernel)
theorem fl_X4_22 : FL RX4 22 4 1 := ⟨RX4, TX4, 5, rfl, by decide, List.mem_of_getElem? (i := 182) (by decide +kernel)⟩
theorem ml_X4_38 : ML RX4 38 yX4_workOut := List.mem_of_getElem? (i := 183) (by decide +kernel)
theorem ml_X7_153 : ML RX7 153 Lib.Math.min.name := List.mem_of_getElem? (i := 188) (by decide +kernel)
theorem ml_X7_320 : ML RX7 320 Lib.Math.max.name := List.mem_of_getElem? (i := 192) (by decide +kernel)
theorem ml_X6_106 : ML RX6 106 yX0_leaks := List.mem_of_getElem? (i := 195) (by decide +kernel)
theorem fl_X0_9 : FL RX0 9 0 0 := ⟨RX0, TX0, 5, rfl, by decide, List.mem_of_getElem? (i := 199) (by decide +kernel)⟩
theorem ml_X0_35 : ML RX0 35 Lib.Math.max.name := List.mem_of_getElem? (i := 200) (by decide +kernel)
theorem ml_X7_113 : ML RX7 113 yX0_goes := List.mem_of_getElem? (i := 201) (by decide +kernel)
theorem fl_X0_15 : FL RX0 15 0 1 := ⟨RX0, TX0, 5, rfl, by decide, List.mem_of_getElem? (i := 205) (by decide +kernel)⟩
theorem ml_X7_117 : ML RX7 117 yX0_worth := List.mem_of_getElem? (i := 206) (by decide +kernel)
theorem ml_L_22 : ML RL 22 yX8_told := List.mem_of_getElem? (i := 210) (by decide +kernel)
theorem ml_X8_104 : ML RX8 104 yX8_isMule := List.mem_of_getElem? (i := 214) (by decide +kernel)
theorem ml_X8_90 : ML RX8 90 yX8_of := List.mem_of_getElem? (i := 218) (by decide +kernel)
theorem ml_X8_108 : ML RX8 108 yX8_leaks := List.mem_of_getElem? (i := 222) (by decide +kernel)
theorem ml_X8_94 : ML RX8 94 yX8_counts := List.mem_of_getElem? (i := 226) (by decide +kernel)
theorem ml_X8_267 : ML RX8 267 yX8_textAt := List.mem_of_getElem? (i := 230) (by decide +kernel)
theorem ml_X8_98 : ML RX8 98 yX8_worked := List.mem_of_getElem? (i := 234) (by decide +kernel)
theorem ml_X8_281 : ML RX8 281 yX8_joined := List.mem_of_getElem? (i := 238) (by decide +kernel)
theorem ml_X8_101 : ML RX8 101 yX8_within := List.mem_of_getElem? (i := 241) (by decide +kernel)
theorem ml_X8_111 : ML RX8 111 yX8_paces := List.mem_of_getElem? (i := 244) (by decide +kernel)
theorem ml_X8_114 : ML RX8 114 yX8_worth := List.mem_of_getElem? (i := 248) (by decide +kernel)
theorem ml_L_23 : ML RL 23 yX7_as := List.mem_of_getElem? (i := 252) (by decide +kernel)
theorem kc_X7_123 : KL RX7 123 (-1000000012) := List.mem_of_getElem? (i := 256) (by decide +kernel)
theorem ml_X7_120 : ML RX7 120 yX0_isOf := List.mem_of_getElem? (i := 257) (by decide +kernel)
theorem ml_L_26 : ML RL 26 yX8_as := List.mem_of_getElem? (i := 262) (by decide +kernel)
theorem kc_X8_121 : KL RX8 121 (-1000000012) := List.mem_of_getElem? (i := 266) (by decide +kernel)
theorem ml_X8_117 : ML RX8 117 yX8_isOf := List.mem_of_getElem? (i := 267) (by decide +kernel)
theorem ml_L_27 : ML RL 27 yX7_turns := List.mem_of_getElem? (i := 270) (by decide +kernel)
theorem ml_L_30 : ML RL 30 yX8_turns := List.mem_of_getElem? (i := 274) (by decide +kernel)
theorem ml_X8_122 : ML RX8 122 yX8_becomes := List.mem_of_getElem? (i := 278) (by decide +kernel)
theorem ml_L_31 : ML RL 31 yX7_set := List.mem_of_getElem? (i := 282) (by decide +kernel)
theorem ml_X7_124 : ML RX7 124 yX7_fits := List.mem_of_getElem? (i := 286) (by decide +kernel)
theorem ml_X7_137 : ML RX7 137 yX7_isYard := List.mem_of_getElem? (i := 289) (by decide +kernel)
theorem ml_L_35 : ML RL 35 yX8_set := List.mem_of_getElem? (i := 292) (by decide +kernel)
theorem k2_X8_125 : K2 RX8 125 (4) := List.mem_of_getElem? (i := 296) (by decide +kernel)
theorem ml_X8_127 : ML RX8 127 yX8_mostOf := List.mem_of_getElem? (i := 297) (by decide +kernel)
theorem ml_L_36 : ML RL 36 yX7_rule := List.mem_of_getElem? (i := 300) (by decide +kernel)
theorem fl_X7_134 : FL RX7 134 6 4 := ⟨RX6, TX6, 13, rfl, by decide, List.mem_of_getElem? (i := 306) (by decide +kernel)⟩
theorem ml_L_39 : ML RL 39 yX8_rule := List.mem_of_getElem? (i := 307) (by decide +kernel)
theorem k2_X8_130 : K2 RX8 130 (99) := List.mem_of_getElem? (i := 311) (by decide +kernel)
theorem k2_X8_132 : K2 RX8 132 (100) := List.mem_of_getElem? (i := 312) (by decide +kernel)
theorem k2_X8_134 : K2 RX8 134 (-3) := List.mem_of_getElem? (i := 313) (by decide +kernel)
theorem k2_X8_136 : K2 RX8 136 (3) := List.mem_of_getElem? (i := 314) (by decide +kernel)
theorem ml_L_40 : ML RL 40 yX7_yard := List.mem_of_getElem? (i := 315) (by decide +kernel)
theorem fl_X7_140 : FL RX7 140 6 2 := ⟨RX6, TX6, 13, rfl, by decide, List.mem_of_getElem? (i := 319) (by decide +kernel)⟩
theorem fl_X7_143 : FL RX7 143 6 3 := ⟨RX6, TX6, 13, rfl, by decide, List.mem_of_getElem? (i := 320) (by decide +kernel)⟩
theorem ml_L_43 : ML RL 43 yX8_yard := List.mem_of_getElem? (i := 321) (by decide +kernel)
theorem ml_X8_138 : ML RX8 138 yX8_isYard := List.mem_of_getElem? (i := 325) (by decide +kernel)
theorem k2_X8_69 : K2 RX8 69 (59) := List.mem_of_getElem? (i := 328) (by decide +kernel)
theorem ml_L_44 : ML RL 44 yX7_sweep := List.mem_of_getElem? (i := 329) (by decide +kernel)
theorem ml_X7_146 : ML RX7 146 yX6_takeAll := List.mem_of_getElem? (i := 333) (by decide +kernel)
theorem ml_L_48 : ML RL 48 yX8_sweep := List.mem_of_getElem? (i := 337) (by decide +kernel)
theorem ml_L_49 : ML RL 49 yX7_rain := List.mem_of_getElem? (i := 341) (by decide +kernel)
theorem ml_X7_150 : ML RX7 150 yX6_sprout := List.mem_of_getElem? (i := 345) (by decide +kernel)
theorem ml_L_53 : ML RL 53 yX8_rain := List.mem_of_getElem? (i := 349) (by decide +kernel)
theorem ml_L_54 : ML RL 54 yX7_deal := List.mem_of_getElem? (i := 353) (by decide +kernel)
theorem ml_X7_159 : ML RX7 159 yX6_drawMule := List.mem_of_getElem? (i := 357) (by decide +kernel)
theorem ml_X6_89 : ML RX6 89 yX6_draw := List.mem_of_getElem? (i := 361) (by decide +kernel)
theorem kc_X6_97 : KL RX6 97 (1103515245) := List.mem_of_getElem? (i := 365) (by decide +kernel)
theorem ml_X6_93 : ML RX6 93 yX6_addMule := List.mem_of_getElem? (i := 366) (by decide +kernel)
theorem ml_L_57 : ML RL 57 yX8_deal := List.mem_of_getElem? (i := 367) (by decide +kernel)
theorem k2_X8_141 : K2 RX8 141 (8) := List.mem_of_getElem? (i := 371) (by decide +kernel)
theorem ml_X8_143 : ML RX8 143 yX8_drawn := List.mem_of_getElem? (i := 372) (by decide +kernel)
theorem kc_X8_71 : KL RX8 71 (1103515245) := List.mem_of_getElem? (i := 376) (by decide +kernel)
theorem ml_L_58 : ML RL 58 yX7_seed := List.mem_of_getElem? (i := 377) (by decide +kernel)
theorem fl_X7_162 : FL RX7 162 6 11 := ⟨RX6, TX6, 13, rfl, by decide, List.mem_of_getElem? (i := 381) (by decide +kernel)⟩
theorem ml_L_61 : ML RL 61 yX8_seed := List.mem_of_getElem? (i := 382) (by decide +kernel)
theorem ml_L_62 : ML RL 62 yX7_minutes := List.mem_of_getElem? (i := 386) (by decide +kernel)
theorem fl_X7_165 : FL RX7 165 6 7 := ⟨RX6, TX6, 13, rfl, by decide, List.mem_of_getElem? (i := 390) (by decide +kernel)⟩
theorem ml_X7_168 : ML RX7 168 yX6_roomFor := List.mem_of_getElem? (i := 391) (by decide +kernel)
theorem fl_X6_68 : FL RX6 68 6 10 := ⟨RX6, TX6, 13, rfl, by decide, List.mem_of_getElem? (i := 395) (by decide +kernel)⟩
theorem ml_X6_119 : ML RX6 119 Lib.Math.min.name := List.mem_of_getElem? (i := 396) (by decide +kernel)
theorem ml_X7_171 : ML RX7 171 yX6_pass := List.mem_of_getElem? (i := 397) (by decide +kernel)
theorem ml_X6_125 : ML RX6 125 yX6_goOn := List.mem_of_getElem? (i := 401) (by decide +kernel)
theorem fl_X6_59 : FL RX6 59 6 7 := ⟨RX6, TX6, 13, rfl, by decide, List.mem_of_getElem? (i := 405) (by decide +kernel)⟩
theorem ml_X6_137 : ML RX6 137 yX6_leaksOf := List.mem_of_getElem? (i := 406) (by decide +kernel)
theorem ml_X6_141 : ML RX6 141 yX0_goes := List.mem_of_getElem? (i := 407) (by decide +kernel)
theorem ml_X6_128 : ML RX6 128 yX6_widenHoles := List.mem_of_getElem? (i := 408) (by decide +kernel)
theorem ml_X6_131 : ML RX6 131 yX6_birdsEat := List.mem_of_getElem? (i := 412) (by decide +kernel)
theorem fl_X6_62 : FL RX6 62 6 8 := ⟨RX6, TX6, 13, rfl, by decide, List.mem_of_getElem? (i := 416) (by decide +kernel)⟩
theorem ml_X6_134 : ML RX6 134 yX6_gustBlows := List.mem_of_getElem? (i := 417) (by decide +kernel)
theorem fl_X6_65 : FL RX6 65 6 9 := ⟨RX6, TX6, 13, rfl, by decide, List.mem_of_getElem? (i := 421) (by decide +kernel)⟩
theorem ml_L_65 : ML RL 65 yX8_minutes := List.mem_of_getElem? (i := 422) (by decide +kernel)
theorem ml_X8_154 : ML RX8 154 yX8_goesOn := List.mem_of_getElem? (i := 426) (by decide +kernel)
theorem ml_X8_147 : ML RX8 147 yX8_walks := List.mem_of_getElem? (i := 430) (by decide +kernel)
theorem ml_X8_151 : ML RX8 151 yX8_gusts := List.mem_of_getElem? (i := 434) (by decide +kernel)
theorem ml_L_66 : ML RL 66 yX7_way := List.mem_of_getElem? (i := 438) (by decide +kernel)
theorem fl_X7_179 : FL RX7 179 6 8 := ⟨RX6, TX6, 13, rfl, by decide, List.mem_of_getElem? (i := 442) (by decide +kernel)⟩
theorem fl_X7_182 : FL RX7 182 6 9 := ⟨RX6, TX6, 13, rfl, by decide, List.mem_of_getElem? (i := 443) (by decide +kernel)⟩
theorem ml_X7_175 : ML RX7 175 yX7_sumOf := List.mem_of_getElem? (i := 444) (by decide +kernel)
theorem ml_X7_185 : ML RX7 185 yX6_grainOfAll := List.mem_of_getElem? (i := 447) (by decide +kernel)
theorem ml_X7_188 : ML RX7 188 yX6_trail := List.mem_of_getElem? (i := 451) (by decide +kernel)
theorem ml_X6_148 : ML RX6 148 Lib.Math.max.name := List.mem_of_getElem? (i := 455) (by decide +kernel)
theorem ml_L_69 : ML RL 69 yX8_way := List.mem_of_getElem? (i := 456) (by decide +kernel)
theorem ml_X8_157 : ML RX8 157 yX8_allOf := List.mem_of_getElem? (i := 460) (by decide +kernel)
theorem ml_X8_160 : ML RX8 160 yX8_inSacks := List.mem_of_getElem? (i := 464) (by decide +kernel)
theorem ml_X8_163 : ML RX8 163 yX8_trail := List.mem_of_getElem? (i := 468) (by decide +kernel)
theorem ml_L_70 : ML RL 70 yX7_behind := List.mem_of_getElem? (i := 472) (by decide +kernel)
theorem ml_X7_191 : ML RX7 191 yX6_become := List.mem_of_getElem? (i := 476) (by decide +kernel)
theorem ml_X6_53 : ML RX6 53 arraycopyName := List.mem_of_getElem? (i := 480) (by decide +kernel)
theorem fl_X6_71 : FL RX6 71 6 12 := ⟨RX6, TX6, 13, rfl, by decide, List.mem_of_getElem? (i := 484) (by decide +kernel)⟩
theorem ml_X6_49 : ML RX6 49 yX0_become := List.mem_of_getElem? (i := 485) (by decide +kernel)
theorem fl_X0_18 : FL RX0 18 0 2 := ⟨RX0, TX0, 5, rfl, by decide, List.mem_of_getElem? (i := 489) (by decide +kernel)⟩
theorem fl_X0_21 : FL RX0 21 0 3 := ⟨RX0, TX0, 5, rfl, by decide, List.mem_of_getElem? (i := 490) (by decide +kernel)⟩
theorem fl_X0_24 : FL RX0 24 0 4 := ⟨RX0, TX0, 5, rfl, by decide, List.mem_of_getElem? (i := 491) (by decide +kernel)⟩
theorem ml_L_73 : ML RL 73 yX8_behind := List.mem_of_getElem? (i := 492) (by decide +kernel)
theorem ml_X8_166 : ML RX8 166 yX8_laysBy := List.mem_of_getElem? (i := 496) (by decide +kernel)
theorem ml_X8_169 : ML RX8 169 yX8_goesOnMany := List.mem_of_getElem? (i := 500) (by decide +kernel)
theorem ml_X8_172 : ML RX8 172 yX8_laysBack := List.mem_of_getElem? (i := 504) (by decide +kernel)
theorem ml_L_74 : ML RL 74 yX7_empty := List.mem_of_getElem? (i := 508) (by decide +kernel)
theorem kc_X7_199 : KL RX7 199 (-1000000005) := List.mem_of_getElem? (i := 512) (by decide +kernel)
theorem ml_X7_195 : ML RX7 195 yX6_isThrough := List.mem_of_getElem? (i := 513) (by decide +kernel)
theorem ml_L_77 : ML RL 77 yX8_empty := List.mem_of_getElem? (i := 517) (by decide +kernel)
theorem ml_X8_175 : ML RX8 175 yX8_isEmpty := List.mem_of_getElem? (i := 521) (by decide +kernel)
theorem ml_X8_179 : ML RX8 179 yX8_orNone := List.mem_of_getElem? (i := 525) (by decide +kernel)
theorem kc_X8_64 : KL RX8 64 (-1000000005) := List.mem_of_getElem? (i := 528) (by decide +kernel)
theorem ml_L_78 : ML RL 78 yX7_thickest := List.mem_of_getElem? (i := 529) (by decide +kernel)
theorem ml_X7_200 : ML RX7 200 yX6_fullestYard := List.mem_of_getElem? (i := 533) (by decide +kernel)
theorem ml_L_81 : ML RL 81 yX8_thickest := List.mem_of_getElem? (i := 537) (by decide +kernel)
theorem ml_L_82 : ML RL 82 yX7_patch := List.mem_of_getElem? (i := 541) (by decide +kernel)
theorem ml_X7_203 : ML RX7 203 yX7_leftIfPatched := List.mem_of_getElem? (i := 545) (by decide +kernel)
theorem ml_L_85 : ML RL 85 yX8_patch := List.mem_of_getElem? (i := 549) (by decide +kernel)
theorem k2_X8_182 : K2 RX8 182 (60) := List.mem_of_getElem? (i := 553) (by decide +kernel)
theorem ml_L_86 : ML RL 86 yX7_pan := List.mem_of_getElem? (i := 554) (by decide +kernel)
theorem ml_L_89 : ML RL 89 yX8_pan := List.mem_of_getElem? (i := 558) (by decide +kernel)
theorem ml_L_90 : ML RL 90 yX7_whose := List.mem_of_getElem? (i := 562) (by decide +kernel)
theorem kc_X7_212 : KL RX7 212 (-1000000011) := List.mem_of_getElem? (i := 566) (by decide +kernel)
theorem ml_X7_206 : ML RX7 206 yX7_isSheet := List.mem_of_getElem? (i := 567) (by decide +kernel)
theorem ml_X7_209 : ML RX7 209 yX1_isMissing := List.mem_of_getElem? (i := 570) (by decide +kernel)
theorem ml_X7_213 : ML RX7 213 yX7_differenceIfAlone := List.mem_of_getElem? (i := 574) (by decide +kernel)
theorem fl_X7_276 : FL RX7 276 1 2 := ⟨RX1, TX1, 3, rfl, by decide, List.mem_of_getElem? (i := 578) (by decide +kernel)⟩
theorem fl_X7_266 : FL RX7 266 1 0 := ⟨RX1, TX1, 3, rfl, by decide, List.mem_of_getElem? (i := 579) (by decide +kernel)⟩
theorem ml_X7_323 : ML RX7 323 Lib.Math.abs.name := List.mem_of_getElem? (i := 580) (by decide +kernel)
theorem ml_X7_269 : ML RX7 269 yX1_hasNumber := List.mem_of_getElem? (i := 583) (by decide +kernel)
theorem kc_X1_42 : KL RX1 42 (-1000000005) := List.mem_of_getElem? (i := 587) (by decide +kernel)
theorem ml_X1_38 : ML RX1 38 yX1_has := List.mem_of_getElem? (i := 588) (by decide +kernel)
theorem fl_X1_19 : FL RX1 19 1 2 := ⟨RX1, TX1, 3, rfl, by decide, List.mem_of_getElem? (i := 592) (by decide +kernel)⟩
theorem ml_L_93 : ML RL 93 yX8_whose := List.mem_of_getElem? (i := 593) (by decide +kernel)
theorem kc_X8_291 : KL RX8 291 (-1000000011) := List.mem_of_getElem? (i := 597) (by decide +kernel)
theorem ml_X8_285 : ML RX8 285 yX8_isSheet := List.mem_of_getElem? (i := 598) (by decide +kernel)
theorem ml_X8_297 : ML RX8 297 yX8_off := List.mem_of_getElem? (i := 601) (by decide +kernel)
theorem ml_L_94 : ML RL 94 yX7_fee := List.mem_of_getElem? (i := 604) (by decide +kernel)
theorem ml_X7_217 : ML RX7 217 yX6_given := List.mem_of_getElem? (i := 608) (by decide +kernel)
theorem ml_L_97 : ML RL 97 yX8_fee := List.mem_of_getElem? (i := 609) (by decide +kernel)
theorem ml_L_98 : ML RL 98 yX7_fine := List.mem_of_getElem? (i := 613) (by decide +kernel)
theorem ml_L_101 : ML RL 101 yX8_fine := List.mem_of_getElem? (i := 617) (by decide +kernel)
theorem ml_L_102 : ML RL 102 yX7_feed := List.mem_of_getElem? (i := 621) (by decide +kernel)
theorem fl_X7_221 : FL RX7 221 3 1 := ⟨RX3, TX3, 2, rfl, by decide, List.mem_of_getElem? (i := 625) (by decide +kernel)⟩
theorem ml_X7_224 : ML RX7 224 yX3_addBytesOf := List.mem_of_getElem? (i := 626) (by decide +kernel)
theorem fl_X3_15 : FL RX3 15 3 1 := ⟨RX3, TX3, 2, rfl, by decide, List.mem_of_getElem? (i := 630) (by decide +kernel)⟩
theorem ml_L_105 : ML RL 105 yX8_feed := List.mem_of_getElem? (i := 631) (by decide +kernel)
theorem fl_X8_184 : FL RX8 184 8 14 := ⟨RX8, TX8, 31, rfl, by decide, List.mem_of_getElem? (i := 635) (by decide +kernel)⟩
theorem ml_L_106 : ML RL 106 yX7_trim := List.mem_of_getElem? (i := 636) (by decide +kernel)
theorem ml_L_109 : ML RL 109 yX8_trim := List.mem_of_getElem? (i := 640) (by decide +kernel)
theorem ml_L_110 : ML RL 110 yX7_text := List.mem_of_getElem? (i := 644) (by decide +kernel)
theorem fl_X7_230 : FL RX7 230 5 1 := ⟨RX5, TX5, 5, rfl, by decide, List.mem_of_getElem? (i := 648) (by decide +kernel)⟩
theorem fl_X7_233 : FL RX7 233 6 12 := ⟨RX6, TX6, 13, rfl, by decide, List.mem_of_getElem? (i := 649) (by decide +kernel)⟩
theorem fl_X7_236 : FL RX7 236 5 0 := ⟨RX5, TX5, 5, rfl, by decide, List.mem_of_getElem? (i := 650) (by decide +kernel)⟩
theorem fl_X7_243 : FL RX7 243 6 5 := ⟨RX6, TX6, 13, rfl, by decide, List.mem_of_getElem? (i := 651) (by decide +kernel)⟩
theorem fl_X7_246 : FL RX7 246 4 2 := ⟨RX4, TX4, 5, rfl, by decide, List.mem_of_getElem? (i := 652) (by decide +kernel)⟩
theorem ml_X7_227 : ML RX7 227 yX5_readTape := List.mem_of_getElem? (i := 653) (by decide +kernel)
theorem fl_X5_19 : FL RX5 19 5 3 := ⟨RX5, TX5, 5, rfl, by decide, List.mem_of_getElem? (i := 657) (by decide +kernel)⟩
theorem fl_X5_23 : FL RX5 23 5 4 := ⟨RX5, TX5, 5, rfl, by decide, List.mem_of_getElem? (i := 658) (by decide +kernel)⟩
theorem ml_X5_26 : ML RX5 26 yX5_stepOn := List.mem_of_getElem? (i := 659) (by decide +kernel)
theorem fl_X5_61 : FL RX5 61 5 1 := ⟨RX5, TX5, 5, rfl, by decide, List.mem_of_getElem? (i := 663) (by decide +kernel)⟩
theorem fl_X5_109 : FL RX5 109 3 1 := ⟨RX3, TX3, 2, rfl, by decide, List.mem_of_getElem? (i := 664) (by decide +kernel)⟩
theorem ml_X5_64 : ML RX5 64 yX3_byteAt := List.mem_of_getElem? (i := 665) (by decide +kernel)
theorem ml_X5_112 : ML RX5 112 yX5_sortOf := List.mem_of_getElem? (i := 669) (by decide +kernel)
theorem ml_X5_29 : ML RX5 29 yX5_readKey := List.mem_of_getElem? (i := 672) (by decide +kernel)
theorem ml_X5_37 : ML RX5 37 yX5_wordOf := List.mem_of_getElem? (i := 676) (by decide +kernel)
theorem ml_X5_41 : ML RX5 41 yX5_spells := List.mem_of_getElem? (i := 679) (by decide +kernel)
theorem ml_X5_118 : ML RX5 118 yJ0_length_8abf5 := List.mem_of_getElem? (i := 683) (by decide +kernel)
theorem ml_J0_335 : ML RJ0 335 yJ0_coder_7d493 := List.mem_of_getElem? (i := 689) (by decide +kernel)
theorem ml_X5_121 : ML RX5 121 yJ0_charAt_5068e := List.mem_of_getElem? (i := 695) (by decide +kernel)
theorem ml_J0_492 : ML RJ0 492 yJ0_isLatin1_aae02 := List.mem_of_getElem? (i := 699) (by decide +kernel)
theorem ml_J0_495 : ML RJ0 495 yJ1_charAt_3b067 := List.mem_of_getElem? (i := 703) (by decide +kernel)
theorem ml_J1_9 : ML RJ1 9 yJ0_checkIndex_df160 := List.mem_of_getElem? (i := 707) (by decide +kernel)
theorem ml_J0_1059 : ML RJ0 1059 yJ3_checkIndex_8e157 := List.mem_of_getElem? (i := 711) (by decide +kernel)
theorem ml_J0_498 : ML RJ0 498 yJ2_charAt_3b067 := List.mem_of_getElem? (i := 715) (by decide +kernel)
theorem ml_J2_67 : ML RJ2 67 yJ2_checkIndex_2214a := List.mem_of_getElem? (i := 719) (by decide +kernel)
theorem ml_J2_48 : ML RJ2 48 yJ2_length_9d52b := List.mem_of_getElem? (i := 722) (by decide +kernel)
theorem ml_J2_414 : ML RJ2 414 yJ0_checkIndex_df160 := List.mem_of_getElem? (i := 725) (by decide +kernel)
theorem ml_J2_71 : ML RJ2 71 yJ2_getChar_3b067 := List.mem_of_getElem? (i := 726) (by decide +kernel)
theorem ml_X5_45 : ML RX5 45 yX4_begin := List.mem_of_getElem? (i := 732) (by decide +kernel)
theorem fl_X4_18 : FL RX4 18 4 2 := ⟨RX4, TX4, 5, rfl, by decide, List.mem_of_getElem? (i := 736) (by decide +kernel)⟩
theorem fl_X4_25 : FL RX4 25 4 3 := ⟨RX4, TX4, 5, rfl, by decide, List.mem_of_getElem? (i := 737) (by decide +kernel)⟩
theorem ml_X5_33 : ML RX5 33 yX5_readLevel := List.mem_of_getElem? (i := 738) (by decide +kernel)
theorem ml_X5_51 : ML RX5 51 yX5_readPiece := List.mem_of_getElem? (i := 742) (by decide +kernel)
theorem ml_X5_55 : ML RX5 55 yX5_signsOf := List.mem_of_getElem? (i := 745) (by decide +kernel)
theorem ml_X5_58 : ML RX5 58 yX5_isOneOf := List.mem_of_getElem? (i := 748) (by decide +kernel)
theorem ml_X5_99 : ML RX5 99 yJ0_indexOf_0f7a4 := List.mem_of_getElem? (i := 752) (by decide +kernel)
theorem ml_J0_633 : ML RJ0 633 yJ0_indexOf_7cf53 := List.mem_of_getElem? (i := 756) (by decide +kernel)
theorem ml_J0_505 : ML RJ0 505 yJ0_length_8abf5 := List.mem_of_getElem? (i := 760) (by decide +kernel)
theorem ml_J0_637 : ML RJ0 637 yJ1_indexOf_4cfef := List.mem_of_getElem? (i := 761) (by decide +kernel)
theorem ml_J1_92 : ML RJ1 92 Lib.Math.max.name := List.mem_of_getElem? (i := 764) (by decide +kernel)
theorem ml_J1_38 : ML RJ1 38 Lib.Math.min.name := List.mem_of_getElem? (i := 765) (by decide +kernel)
theorem ml_J1_88 : ML RJ1 88 yJ1_canEncode_9a6ad := List.mem_of_getElem? (i := 766) (by decide +kernel)
theorem ml_J1_95 : ML RJ1 95 yJ1_indexOfChar_4cfef := List.mem_of_getElem? (i := 769) (by decide +kernel)
theorem ml_J0_640 : ML RJ0 640 yJ2_indexOf_4cfef := List.mem_of_getElem? (i := 772) (by decide +kernel)
theorem ml_J2_224 : ML RJ2 224 Lib.Math.max.name := List.mem_of_getElem? (i := 775) (by decide +kernel)
theorem ml_J2_183 : ML RJ2 183 Lib.Math.min.name := List.mem_of_getElem? (i := 776) (by decide +kernel)
theorem kc_J2_227 : KL RJ2 227 (65536) := List.mem_of_getElem? (i := 777) (by decide +kernel)
theorem ml_J2_228 : ML RJ2 228 yJ2_indexOfChar_4cfef := List.mem_of_getElem? (i := 778) (by decide +kernel)
theorem ml_J2_96 : ML RJ2 96 yJ2_checkBoundsBeginEnd_d044e := List.mem_of_getElem? (i := 781) (by decide +kernel)
theorem ml_J2_241 : ML RJ2 241 yJ0_checkBoundsBeginEnd_23922 := List.mem_of_getElem? (i := 784) (by decide +kernel)
theorem ml_J0_1062 : ML RJ0 1062 yJ3_checkFromToIndex_8c36e := List.mem_of_getElem? (i := 787) (by decide +kernel)
theorem ml_J2_244 : ML RJ2 244 yJ2_indexOfCharUnsafe_4cfef := List.mem_of_getElem? (i := 790) (by decide +kernel)
theorem ml_J2_232 : ML RJ2 232 yJ2_indexOfSupplementary_4cfef := List.mem_of_getElem? (i := 793) (by decide +kernel)
theorem ml_J2_164 : ML RJ2 164 yJ11_isValidCodePoint_9a6ad := List.mem_of_getElem? (i := 796) (by decide +kernel)
theorem ml_J2_157 : ML RJ2 157 yJ11_highSurrogate_5068e := List.mem_of_getElem? (i := 800) (by decide +kernel)
theorem kc_J11_110 : KL RJ11 110 (55232) := List.mem_of_getElem? (i := 803) (by decide +kernel)
theorem ml_J2_161 : ML RJ2 161 yJ11_lowSurrogate_5068e := List.mem_of_getElem? (i := 804) (by decide +kernel)
theorem kc_J11_76 : KL RJ11 76 (56320) := List.mem_of_getElem? (i := 807) (by decide +kernel)
theorem ml_X5_70 : ML RX5 70 yX4_addSign := List.mem_of_getElem? (i := 808) (by decide +kernel)
theorem ml_X4_34 : ML RX4 34 yX4_addStep := List.mem_of_getElem? (i := 812) (by decide +kernel)
theorem ml_X5_73 : ML RX5 73 yX5_number := List.mem_of_getElem? (i := 819) (by decide +kernel)
theorem ml_X5_77 : ML RX5 77 yX4_addNumber := List.mem_of_getElem? (i := 823) (by decide +kernel)
theorem ml_X5_80 : ML RX5 80 yX5_readName := List.mem_of_getElem? (i := 827) (by decide +kernel)
theorem fl_X5_93 : FL RX5 93 4 2 := ⟨RX4, TX4, 5, rfl, by decide, List.mem_of_getElem? (i := 831) (by decide +kernel)⟩
theorem ml_X5_96 : ML RX5 96 yX5_namesOf := List.mem_of_getElem? (i := 832) (by decide +kernel)
theorem ml_X5_104 : ML RX5 104 yX4_addName := List.mem_of_getElem? (i := 835) (by decide +kernel)
theorem ml_X5_85 : ML RX5 85 yX5_readNot := List.mem_of_getElem? (i := 839) (by decide +kernel)
theorem ml_X5_90 : ML RX5 90 yX5_readBrackets := List.mem_of_getElem? (i := 842) (by decide +kernel)
theorem ml_X7_240 : ML RX7 240 yX4_become := List.mem_of_getElem? (i := 845) (by decide +kernel)
theorem ml_X4_28 : ML RX4 28 arraycopyName := List.mem_of_getElem? (i := 849) (by decide +kernel)
theorem ml_L_113 : ML RL 113 yX8_text := List.mem_of_getElem? (i := 850) (by decide +kernel)
theorem fl_X8_202 : FL RX8 202 8 15 := ⟨RX8, TX8, 31, rfl, by decide, List.mem_of_getElem? (i := 854) (by decide +kernel)⟩
theorem fl_X8_252 : FL RX8 252 8 24 := ⟨RX8, TX8, 31, rfl, by decide, List.mem_of_getElem? (i := 855) (by decide +kernel)⟩
theorem fl_X8_224 : FL RX8 224 8 22 := ⟨RX8, TX8, 31, rfl, by decide, List.mem_of_getElem? (i := 856) (by decide +kernel)⟩
theorem ml_X8_273 : ML RX8 273 yX8_parse := List.mem_of_getElem? (i := 857) (by decide +kernel)
theorem fl_X8_196 : FL RX8 196 8 16 := ⟨RX8, TX8, 31, rfl, by decide, List.mem_of_getElem? (i := 861) (by decide +kernel)⟩
theorem fl_X8_199 : FL RX8 199 8 17 := ⟨RX8, TX8, 31, rfl, by decide, List.mem_of_getElem? (i := 862) (by decide +kernel)⟩
theorem fl_X8_261 : FL RX8 261 8 20 := ⟨RX8, TX8, 31, rfl, by decide, List.mem_of_getElem? (i := 863) (by decide +kernel)⟩
theorem fl_X8_258 : FL RX8 258 8 21 := ⟨RX8, TX8, 31, rfl, by decide, List.mem_of_getElem? (i := 864) (by decide +kernel)⟩
theorem fl_X8_221 : FL RX8 221 8 23 := ⟨RX8, TX8, 31, rfl, by decide, List.mem_of_getElem? (i := 865) (by decide +kernel)⟩
theorem ml_X8_233 : ML RX8 233 yX8_nextToken := List.mem_of_getElem? (i := 866) (by decide +kernel)
theorem fl_X8_208 : FL RX8 208 8 19 := ⟨RX8, TX8, 31, rfl, by decide, List.mem_of_getElem? (i := 870) (by decide +kernel)⟩
theorem fl_X8_214 : FL RX8 214 8 18 := ⟨RX8, TX8, 31, rfl, by decide, List.mem_of_getElem? (i := 871) (by decide +kernel)⟩
theorem ml_X8_205 : ML RX8 205 yX8_isLetter := List.mem_of_getElem? (i := 872) (by decide +kernel)
theorem k2_X8_188 : K2 RX8 188 (97) := List.mem_of_getElem? (i := 876) (by decide +kernel)
theorem k2_X8_190 : K2 RX8 190 (122) := List.mem_of_getElem? (i := 877) (by decide +kernel)
theorem ml_X8_211 : ML RX8 211 yX8_isDigit := List.mem_of_getElem? (i := 878) (by decide +kernel)
theorem k2_X8_192 : K2 RX8 192 (48) := List.mem_of_getElem? (i := 882) (by decide +kernel)
theorem k2_X8_194 : K2 RX8 194 (57) := List.mem_of_getElem? (i := 883) (by decide +kernel)
theorem ml_X8_270 : ML RX8 270 yX8_key := List.mem_of_getElem? (i := 884) (by decide +kernel)
theorem ml_X8_217 : ML RX8 217 yX8_isWordAt := List.mem_of_getElem? (i := 888) (by decide +kernel)
theorem ml_X8_264 : ML RX8 264 yX8_either := List.mem_of_getElem? (i := 892) (by decide +kernel)
theorem ml_X8_227 : ML RX8 227 yX8_both := List.mem_of_getElem? (i := 896) (by decide +kernel)
theorem ml_X8_230 : ML RX8 230 yX8_isSign := List.mem_of_getElem? (i := 899) (by decide +kernel)
theorem ml_X8_236 : ML RX8 236 yX8_step := List.mem_of_getElem? (i := 903) (by decide +kernel)
theorem ml_X8_240 : ML RX8 240 yX8_test := List.mem_of_getElem? (i := 908) (by decide +kernel)
theorem ml_X8_255 : ML RX8 255 yX8_isName := List.mem_of_getElem? (i := 912) (by decide +kernel)
theorem ml_X8_249 : ML RX8 249 yX8_part0 := List.mem_of_getElem? (i := 915) (by decide +kernel)
theorem ml_X8_246 : ML RX8 246 yX8_term := List.mem_of_getElem? (i := 919) (by decide +kernel)
theorem ml_X8_243 : ML RX8 243 yX8_sum := List.mem_of_getElem? (i := 924) (by decide +kernel)
theorem ml_L_114 : ML RL 114 yX7_textTold := List.mem_of_getElem? (i := 927) (by decide +kernel)
theorem fl_X7_249 : FL RX7 249 4 3 := ⟨RX4, TX4, 5, rfl, by decide, List.mem_of_getElem? (i := 931) (by decide +kernel)⟩
theorem ml_L_117 : ML RL 117 yX8_textTold := List.mem_of_getElem? (i := 932) (by decide +kernel)
theorem ml_X8_276 : ML RX8 276 yX8_isText := List.mem_of_getElem? (i := 936) (by decide +kernel)
theorem ml_L_118 : ML RL 118 yX7_why := List.mem_of_getElem? (i := 940) (by decide +kernel)
theorem ml_L_121 : ML RL 121 yX8_why := List.mem_of_getElem? (i := 944) (by decide +kernel)
theorem k2_X8_279 : K2 RX8 279 (2) := List.mem_of_getElem? (i := 948) (by decide +kernel)
theorem ml_L_122 : ML RL 122 yX7_sheet := List.mem_of_getElem? (i := 949) (by decide +kernel)
theorem kc_X7_256 : KL RX7 256 (-1000000014) := List.mem_of_getElem? (i := 953) (by decide +kernel)
theorem ml_X7_252 : ML RX7 252 yX1_begin := List.mem_of_getElem? (i := 954) (by decide +kernel)
theorem ml_X1_22 : ML RX1 22 yJ7_fill_53178 := List.mem_of_getElem? (i := 958) (by decide +kernel)
theorem ml_L_125 : ML RL 125 yX8_sheet := List.mem_of_getElem? (i := 959) (by decide +kernel)
theorem k2_X8_288 : K2 RX8 288 (-1) := List.mem_of_getElem? (i := 963) (by decide +kernel)
theorem kc_X8_290 : KL RX8 290 (-1000000014) := List.mem_of_getElem? (i := 964) (by decide +kernel)
theorem ml_L_126 : ML RL 126 yX7_mark := List.mem_of_getElem? (i := 965) (by decide +kernel)
theorem kc_X7_260 : KL RX7 260 (-1000000013) := List.mem_of_getElem? (i := 969) (by decide +kernel)
theorem fl_X7_261 : FL RX7 261 1 1 := ⟨RX1, TX1, 3, rfl, by decide, List.mem_of_getElem? (i := 970) (by decide +kernel)⟩
theorem kc_X7_264 : KL RX7 264 (-99999) := List.mem_of_getElem? (i := 971) (by decide +kernel)
theorem kc_X7_265 : KL RX7 265 (99999) := List.mem_of_getElem? (i := 972) (by decide +kernel)
theorem ml_X7_257 : ML RX7 257 yX1_has := List.mem_of_getElem? (i := 973) (by decide +kernel)
theorem ml_L_129 : ML RL 129 yX8_mark := List.mem_of_getElem? (i := 974) (by decide +kernel)
theorem kc_X8_292 : KL RX8 292 (-1000000013) := List.mem_of_getElem? (i := 978) (by decide +kernel)
theorem k2_X8_293 : K2 RX8 293 (-99999) := List.mem_of_getElem? (i := 979) (by decide +kernel)
theorem k2_X8_295 : K2 RX8 295 (99999) := List.mem_of_getElem? (i := 980) (by decide +kernel)
theorem ml_L_130 : ML RL 130 yX7_pour := List.mem_of_getElem? (i := 981) (by decide +kernel)
theorem ml_X7_272 : ML RX7 272 yX7_held := List.mem_of_getElem? (i := 985) (by decide +kernel)
theorem ml_L_133 : ML RL 133 yX8_pour := List.mem_of_getElem? (i := 986) (by decide +kernel)
theorem ml_L_134 : ML RL 134 yX7_reads := List.mem_of_getElem? (i := 990) (by decide +kernel)
theorem ml_L_137 : ML RL 137 yX8_reads := List.mem_of_getElem? (i := 994) (by decide +kernel)
theorem ml_L_138 : ML RL 138 yX7_copy := List.mem_of_getElem? (i := 998) (by decide +kernel)
theorem ml_X7_280 : ML RX7 280 arraycopyName := List.mem_of_getElem? (i := 1002) (by decide +kernel)
theorem ml_X7_277 : ML RX7 277 yX1_hasRow := List.mem_of_getElem? (i := 1003) (by decide +kernel)
theorem ml_L_142 : ML RL 142 yX8_copy := List.mem_of_getElem? (i := 1007) (by decide +kernel)
theorem ml_L_143 : ML RL 143 yX7_lay := List.mem_of_getElem? (i := 1011) (by decide +kernel)
theorem fl_X7_289 : FL RX7 289 2 2 := ⟨RX2, TX2, 4, rfl, by decide, List.mem_of_getElem? (i := 1015) (by decide +kernel)⟩
theorem fl_X7_292 : FL RX7 292 2 0 := ⟨RX2, TX2, 4, rfl, by decide, List.mem_of_getElem? (i := 1016) (by decide +kernel)⟩
theorem fl_X7_299 : FL RX7 299 2 1 := ⟨RX2, TX2, 4, rfl, by decide, List.mem_of_getElem? (i := 1017) (by decide +kernel)⟩
theorem fl_X7_306 : FL RX7 306 2 3 := ⟨RX2, TX2, 4, rfl, by decide, List.mem_of_getElem? (i := 1018) (by decide +kernel)⟩
theorem ml_X7_286 : ML RX7 286 yX7_isSlot := List.mem_of_getElem? (i := 1019) (by decide +kernel)
theorem ml_X7_296 : ML RX7 296 yX0_become := List.mem_of_getElem? (i := 1022) (by decide +kernel)
theorem ml_X7_303 : ML RX7 303 yX1_become := List.mem_of_getElem? (i := 1023) (by decide +kernel)
theorem ml_X1_28 : ML RX1 28 arraycopyName := List.mem_of_getElem? (i := 1027) (by decide +kernel)
theorem ml_L_146 : ML RL 146 yX8_lay := List.mem_of_getElem? (i := 1028) (by decide +kernel)
theorem ml_X8_300 : ML RX8 300 yX8_isSlot := List.mem_of_getElem? (i := 1032) (by decide +kernel)
theorem ml_L_147 : ML RL 147 yX7_ask := List.mem_of_getElem? (i := 1035) (by decide +kernel)
theorem ml_L_150 : ML RL 150 yX8_ask := List.mem_of_getElem? (i := 1039) (by decide +kernel)
theorem ml_L_151 : ML RL 151 yX7_item := List.mem_of_getElem? (i := 1043) (by decide +kernel)
theorem ml_L_154 : ML RL 154 yX8_item := List.mem_of_getElem? (i := 1047) (by decide +kernel)
theorem ml_L_155 : ML RL 155 yX7_rest := List.mem_of_getElem? (i := 1051) (by decide +kernel)
theorem kc_X7_309 : KL RX7 309 (-1000000002) := List.mem_of_getElem? (i := 1055) (by decide +kernel)
theorem ml_L_158 : ML RL 158 yX8_rest := List.mem_of_getElem? (i := 1056) (by decide +kernel)
theorem kc_X8_303 : KL RX8 303 (-1000000002) := List.mem_of_getElem? (i := 1060) (by decide +kernel)
theorem ml_L_159 : ML RL 159 yX7_tell := List.mem_of_getElem? (i := 1061) (by decide +kernel)
theorem fl_X7_310 : FL RX7 310 7 10 := ⟨RX7, TX7, 11, rfl, by decide, List.mem_of_getElem? (i := 1065) (by decide +kernel)⟩
theorem ml_L_162 : ML RL 162 yX8_tell := List.mem_of_getElem? (i := 1066) (by decide +kernel)
theorem fl_X8_304 : FL RX8 304 8 29 := ⟨RX8, TX8, 31, rfl, by decide, List.mem_of_getElem? (i := 1070) (by decide +kernel)⟩
theorem ml_L_163 : ML RL 163 yX7_check := List.mem_of_getElem? (i := 1071) (by decide +kernel)
theorem fl_X7_313 : FL RX7 313 7 9 := ⟨RX7, TX7, 11, rfl, by decide, List.mem_of_getElem? (i := 1075) (by decide +kernel)⟩
theorem ml_L_166 : ML RL 166 yX8_check := List.mem_of_getElem? (i := 1076) (by decide +kernel)
theorem k2_X8_307 : K2 RX8 307 (30) := List.mem_of_getElem? (i := 1080) (by decide +kernel)
theorem fl_X8_309 : FL RX8 309 8 3 := ⟨RX8, TX8, 31, rfl, by decide, List.mem_of_getElem? (i := 1081) (by decide +kernel)⟩
theorem ml_X8_313 : ML RX8 313 yX8_setAside := List.mem_of_getElem? (i := 1082) (by decide +kernel)
theorem ml_L_167 : ML RL 167 yX7_keep := List.mem_of_getElem? (i := 1086) (by decide +kernel)
theorem ml_L_170 : ML RL 170 yX8_keep := List.mem_of_getElem? (i := 1090) (by decide +kernel)
theorem ml_L_171 : ML RL 171 yX7_back := List.mem_of_getElem? (i := 1094) (by decide +kernel)
theorem ml_L_174 : ML RL 174 yX8_back := List.mem_of_getElem? (i := 1098) (by decide +kernel)
theorem ml_L_175 : ML RL 175 yX7_count := List.mem_of_getElem? (i := 1102) (by decide +kernel)
theorem fl_X7_317 : FL RX7 317 6 10 := ⟨RX6, TX6, 13, rfl, by decide, List.mem_of_getElem? (i := 1106) (by decide +kernel)⟩
theorem ml_L_178 : ML RL 178 yX8_count := List.mem_of_getElem? (i := 1107) (by decide +kernel)
theorem cd_J7_fill_53178 : CD yJ7_fill_53178 cJ7_fill_53178 4 none 2 := ⟨List.mem_of_getElem? (i := 77) (by decide +kernel), List.mem_of_getElem? (i := 76) (by decide +kernel), by decide +kernel, by decide, by decide +kernel⟩
theorem st_J7_fill_53178 : CS yJ7_fill_53178 := List.mem_of_getElem? (i := 75) (by decide +kernel)
theorem cd_X7_mule : CD yX7_mule cX7_mule 5 (some .int) 4 := ⟨List.mem_of_getElem? (i := 115) (by decide +kernel), List.mem_of_getElem? (i := 2) (by decide +kernel), by decide +kernel, by decide, by decide +kernel⟩
theorem iv_X7_mule : CV yX7_mule := ⟨List.mem_of_getElem? (i := 113) (by decide +kernel), List.mem_of_getElem? (i := 114) (by decide +kernel)⟩
theorem cd_X7_isKind : CD yX7_isKind cX7_isKind 1 (some .boolean) 1 := ⟨List.mem_of_getElem? (i := 121) (by decide +kernel), List.mem_of_getElem? (i := 2) (by decide +kernel), by decide +kernel, by decide, by decide +kernel⟩
theorem st_X7_isKind : CS yX7_isKind := List.mem_of_getElem? (i := 120) (by decide +kernel)
theorem cd_X7_within : CD yX7_within cX7_within 3 (some .boolean) 3 := ⟨List.mem_of_getElem? (i := 124) (by decide +kernel), List.mem_of_getElem? (i := 2) (by decide +kernel), by decide +kernel, by decide, by decide +kernel⟩
theorem st_X7_within : CS yX7_within := List.mem_of_getElem? (i := 123) (by decide +kernel)
theorem cd_X6_addMule : CD yX6_addMule cX6_addMule 6 none 4 := ⟨List.mem_of_getElem? (i := 128) (by decide +kernel), List.mem_of_getElem? (i := 27) (by decide +kernel), by decide +kernel, by decide, by decide +kernel⟩
theorem iv_X6_addMule : CV yX6_addMule := ⟨List.mem_of_getElem? (i := 126) (by decide +kernel), List.mem_of_getElem? (i := 127) (by decide +kernel)⟩
theorem cd_X8_mule : CD yX8_mule cX8_mule 5 (some .int) 4 := ⟨List.mem_of_getElem? (i := 138) (by decide +kernel), List.mem_of_getElem? (i := 5) (by decide +kernel), by decide +kernel, by decide, by decide +kernel⟩
theorem iv_X8_mule : CV yX8_mule := ⟨List.mem_of_getElem? (i := 136) (by decide +kernel), List.mem_of_getElem? (i := 137) (by decide +kernel)⟩
theorem cd_X8_isIn : CD yX8_isIn cX8_isIn 6 (some .boolean) 3 := ⟨List.mem_of_getElem? (i := 147) (by decide +kernel), List.mem_of_getElem? (i := 5) (by decide +kernel), by decide +kernel, by decide, by decide +kernel⟩
theorem st_X8_isIn : CS yX8_isIn := List.mem_of_getElem? (i := 146) (by decide +kernel)
theorem cd_X8_comes : CD yX8_comes cX8_comes 6 none 4 := ⟨List.mem_of_getElem? (i := 151) (by decide +kernel), List.mem_of_getElem? (i := 5) (by decide +kernel), by decide +kernel, by decide, by decide +kernel⟩
theorem iv_X8_comes : CV yX8_comes := ⟨List.mem_of_getElem? (i := 149) (by decide +kernel), List.mem_of_getElem? (i := 150) (by decide +kernel)⟩
theorem cd_X8_sets : CD yX8_sets cX8_sets 4 none 3 := ⟨List.mem_of_getElem? (i := 155) (by decide +kernel), List.mem_of_getElem? (i := 5) (by decide +kernel), by decide +kernel, by decide, by decide +kernel⟩
theorem iv_X8_sets : CV yX8_sets := ⟨List.mem_of_getElem? (i := 153) (by decide +kernel), List.mem_of_getElem? (i := 154) (by decide +kernel)⟩
theorem cd_X7_told : CD yX7_told cX7_told 4 (some .int) 2 := ⟨List.mem_of_getElem? (i := 159) (by decide +kernel), List.mem_of_getElem? (i := 2) (by decide +kernel), by decide +kernel, by decide, by decide +kernel⟩
theorem iv_X7_told : CV yX7_told := ⟨List.mem_of_getElem? (i := 157) (by decide +kernel), List.mem_of_getElem? (i := 158) (by decide +kernel)⟩
theorem cd_X7_isMule : CD yX7_isMule cX7_isMule 2 (some .boolean) 1 := ⟨List.mem_of_getElem? (i := 169) (by decide +kernel), List.mem_of_getElem? (i := 2) (by decide +kernel), by decide +kernel, by decide, by decide +kernel⟩
theorem iv_X7_isMule : CV yX7_isMule := ⟨List.mem_of_getElem? (i := 167) (by decide +kernel), List.mem_of_getElem? (i := 168) (by decide +kernel)⟩
theorem cd_X6_leaksOf : CD yX6_leaksOf cX6_leaksOf 3 (some .int) 1 := ⟨List.mem_of_getElem? (i := 173) (by decide +kernel), List.mem_of_getElem? (i := 27) (by decide +kernel), by decide +kernel, by decide, by decide +kernel⟩
theorem iv_X6_leaksOf : CV yX6_leaksOf := ⟨List.mem_of_getElem? (i := 171) (by decide +kernel), List.mem_of_getElem? (i := 172) (by decide +kernel)⟩
theorem cd_X6_given : CD yX6_given cX6_given 7 (some .int) 5 := ⟨List.mem_of_getElem? (i := 177) (by decide +kernel), List.mem_of_getElem? (i := 27) (by decide +kernel), by decide +kernel, by decide, by decide +kernel⟩
theorem iv_X6_given : CV yX6_given := ⟨List.mem_of_getElem? (i := 175) (by decide +kernel), List.mem_of_getElem? (i := 176) (by decide +kernel)⟩
theorem cd_X4_give : CD yX4_give cX4_give 7 (some .int) 3 := ⟨List.mem_of_getElem? (i := 181) (by decide +kernel), List.mem_of_getElem? (i := 16) (by decide +kernel), by decide +kernel, by decide, by decide +kernel⟩
theorem iv_X4_give : CV yX4_give := ⟨List.mem_of_getElem? (i := 179) (by decide +kernel), List.mem_of_getElem? (i := 180) (by decide +kernel)⟩
theorem cd_X4_workOut : CD yX4_workOut cX4_workOut 3 (some .int) 3 := ⟨List.mem_of_getElem? (i := 185) (by decide +kernel), List.mem_of_getElem? (i := 16) (by decide +kernel), by decide +kernel, by decide, by decide +kernel⟩
theorem st_X4_workOut : CS yX4_workOut := List.mem_of_getElem? (i := 184) (by decide +kernel)
theorem cd_X7_held : CD yX7_held cX7_held 3 (some .int) 3 := ⟨List.mem_of_getElem? (i := 187) (by decide +kernel), List.mem_of_getElem? (i := 2) (by decide +kernel), by decide +kernel, by decide, by decide +kernel⟩
theorem st_X7_held : CS yX7_held := List.mem_of_getElem? (i := 186) (by decide +kernel)
theorem cd_X0_leaks : CD yX0_leaks cX0_leaks 2 (some .int) 1 := ⟨List.mem_of_getElem? (i := 198) (by decide +kernel), List.mem_of_getElem? (i := 64) (by decide +kernel), by decide +kernel, by decide, by decide +kernel⟩
theorem iv_X0_leaks : CV yX0_leaks := ⟨List.mem_of_getElem? (i := 196) (by decide +kernel), List.mem_of_getElem? (i := 197) (by decide +kernel)⟩
theorem cd_X0_goes : CD yX0_goes cX0_goes 1 (some .int) 0 := ⟨List.mem_of_getElem? (i := 204) (by decide +kernel), List.mem_of_getElem? (i := 64) (by decide +kernel), by decide +kernel, by decide, by decide +kernel⟩
theorem iv_X0_goes : CV yX0_goes := ⟨List.mem_of_getElem? (i := 202) (by decide +kernel), List.mem_of_getElem? (i := 203) (by decide +kernel)⟩
theorem cd_X0_worth : CD yX0_worth cX0_worth 2 (some .int) 0 := ⟨List.mem_of_getElem? (i := 209) (by decide +kernel), List.mem_of_getElem? (i := 64) (by decide +kernel), by decide +kernel, by decide, by decide +kernel⟩
theorem iv_X0_worth : CV yX0_worth := ⟨List.mem_of_getElem? (i := 207) (by decide +kernel), List.mem_of_getElem? (i := 208) (by decide +kernel)⟩
theorem cd_X8_told : CD yX8_told cX8_told 3 (some .int) 2 := ⟨List.mem_of_getElem? (i := 213) (by decide +kernel), List.mem_of_getElem? (i := 5) (by decide +kernel), by decide +kernel, by decide, by decide +kernel⟩
theorem iv_X8_told : CV yX8_told := ⟨List.mem_of_getElem? (i := 211) (by decide +kernel), List.mem_of_getElem? (i := 212) (by decide +kernel)⟩
theorem cd_X8_isMule : CD yX8_isMule cX8_isMule 2 (some .boolean) 1 := ⟨List.mem_of_getElem? (i := 217) (by decide +kernel), List.mem_of_getElem? (i := 5) (by decide +kernel), by decide +kernel, by decide, by decide +kernel⟩
theorem iv_X8_isMule : CV yX8_isMule := ⟨List.mem_of_getElem? (i := 215) (by decide +kernel), List.mem_of_getElem? (i := 216) (by decide +kernel)⟩
theorem cd_X8_of : CD yX8_of cX8_of 3 (some .int) 2 := ⟨List.mem_of_getElem? (i := 221) (by decide +kernel), List.mem_of_getElem? (i := 5) (by decide +kernel), by decide +kernel, by decide, by decide +kernel⟩
theorem iv_X8_of : CV yX8_of := ⟨List.mem_of_getElem? (i := 219) (by decide +kernel), List.mem_of_getElem? (i := 220) (by decide +kernel)⟩
theorem cd_X8_leaks : CD yX8_leaks cX8_leaks 4 (some .int) 1 := ⟨List.mem_of_getElem? (i := 225) (by decide +kernel), List.mem_of_getElem? (i := 5) (by decide +kernel), by decide +kernel, by decide, by decide +kernel⟩
theorem iv_X8_leaks : CV yX8_leaks := ⟨List.mem_of_getElem? (i := 223) (by decide +kernel), List.mem_of_getElem? (i := 224) (by decide +kernel)⟩
theorem cd_X8_counts : CD yX8_counts cX8_counts 4 (some .int) 1 := ⟨List.mem_of_getElem? (i := 229) (by decide +kernel), List.mem_of_getElem? (i := 5) (by decide +kernel), by decide +kernel, by decide, by decide +kernel⟩
theorem iv_X8_counts : CV yX8_counts := ⟨List.mem_of_getElem? (i := 227) (by decide +kernel), List.mem_of_getElem? (i := 228) (by decide +kernel)⟩
theorem cd_X8_textAt : CD yX8_textAt cX8_textAt 2 (some .int) 1 := ⟨List.mem_of_getElem? (i := 233) (by decide +kernel), List.mem_of_getElem? (i := 5) (by decide +kernel), by decide +kernel, by decide, by decide +kernel⟩
theorem iv_X8_textAt : CV yX8_textAt := ⟨List.mem_of_getElem? (i := 231) (by decide +kernel), List.mem_of_getElem? (i := 232) (by decide +kernel)⟩
theorem cd_X8_worked : CD yX8_worked cX8_worked 6 (some .int) 1 := ⟨List.mem_of_getElem? (i := 237) (by decide +kernel), List.mem_of_getElem? (i := 5) (by decide +kernel), by decide +kernel, by decide, by decide +kernel⟩
theorem iv_X8_worked : CV yX8_worked := ⟨List.mem_of_getElem? (i := 235) (by decide +kernel), List.mem_of_getElem? (i := 236) (by decide +kernel)⟩
theorem cd_X8_joined : CD yX8_joined cX8_joined 3 (some .int) 3 := ⟨List.mem_of_getElem? (i := 240) (by decide +kernel), List.mem_of_getElem? (i := 5) (by decide +kernel), by decide +kernel, by decide, by decide +kernel⟩
theorem st_X8_joined : CS yX8_joined := List.mem_of_getElem? (i := 239) (by decide +kernel)
theorem cd_X8_within : CD yX8_within cX8_within 2 (some .int) 2 := ⟨List.mem_of_getElem? (i := 243) (by decide +kernel), List.mem_of_getElem? (i := 5) (by decide +kernel), by decide +kernel, by decide, by decide +kernel⟩
theorem st_X8_within : CS yX8_within := List.mem_of_getElem? (i := 242) (by decide +kernel)
theorem cd_X8_paces : CD yX8_paces cX8_paces 4 (some .int) 1 := ⟨List.mem_of_getElem? (i := 247) (by decide +kernel), List.mem_of_getElem? (i := 5) (by decide +kernel), by decide +kernel, by decide, by decide +kernel⟩
theorem iv_X8_paces : CV yX8_paces := ⟨List.mem_of_getElem? (i := 245) (by decide +kernel), List.mem_of_getElem? (i := 246) (by decide +kernel)⟩
theorem cd_X8_worth : CD yX8_worth cX8_worth 3 (some .int) 1 := ⟨List.mem_of_getElem? (i := 251) (by decide +kernel), List.mem_of_getElem? (i := 5) (by decide +kernel), by decide +kernel, by decide, by decide +kernel⟩
theorem iv_X8_worth : CV yX8_worth := ⟨List.mem_of_getElem? (i := 249) (by decide +kernel), List.mem_of_getElem? (i := 250) (by decide +kernel)⟩
theorem cd_X7_as : CD yX7_as cX7_as 4 (some .int) 2 := ⟨List.mem_of_getElem? (i := 255) (by decide +kernel), List.mem_of_getElem? (i := 2) (by decide +kernel), by decide +kernel, by decide, by decide +kernel⟩
theorem iv_X7_as : CV yX7_as := ⟨List.mem_of_getElem? (i := 253) (by decide +kernel), List.mem_of_getElem? (i := 254) (by decide +kernel)⟩
theorem cd_X0_isOf : CD yX0_isOf cX0_isOf 4 (some .boolean) 1 := ⟨List.mem_of_getElem? (i := 260) (by decide +kernel), List.mem_of_getElem? (i := 64) (by decide +kernel), by decide +kernel, by decide, by decide +kernel⟩
theorem iv_X0_isOf : CV yX0_isOf := ⟨List.mem_of_getElem? (i := 258) (by decide +kernel), List.mem_of_getElem? (i := 259) (by decide +kernel)⟩
theorem cd_X8_as : CD yX8_as cX8_as 3 (some .int) 2 := ⟨List.mem_of_getElem? (i := 265) (by decide +kernel), List.mem_of_getElem? (i := 5) (by decide +kernel), by decide +kernel, by decide, by decide +kernel⟩
theorem iv_X8_as : CV yX8_as := ⟨List.mem_of_getElem? (i := 263) (by decide +kernel), List.mem_of_getElem? (i := 264) (by decide +kernel)⟩
theorem cd_X8_isOf : CD yX8_isOf cX8_isOf 2 (some .boolean) 2 := ⟨List.mem_of_getElem? (i := 269) (by decide +kernel), List.mem_of_getElem? (i := 5) (by decide +kernel), by decide +kernel, by decide, by decide +kernel⟩
theorem st_X8_isOf : CS yX8_isOf := List.mem_of_getElem? (i := 268) (by decide +kernel)
theorem cd_X7_turns : CD yX7_turns cX7_turns 4 (some .int) 2 := ⟨List.mem_of_getElem? (i := 273) (by decide +kernel), List.mem_of_getElem? (i := 2) (by decide +kernel), by decide +kernel, by decide, by decide +kernel⟩
theorem iv_X7_turns : CV yX7_turns := ⟨List.mem_of_getElem? (i := 271) (by decide +kernel), List.mem_of_getElem? (i := 272) (by decide +kernel)⟩
theorem cd_X8_turns : CD yX8_turns cX8_turns 3 (some .int) 2 := ⟨List.mem_of_getElem? (i := 277) (by decide +kernel), List.mem_of_getElem? (i := 5) (by decide +kernel), by decide +kernel, by decide, by decide +kernel⟩
theorem iv_X8_turns : CV yX8_turns := ⟨List.mem_of_getElem? (i := 275) (by decide +kernel), List.mem_of_getElem? (i := 276) (by decide +kernel)⟩
theorem cd_X8_becomes : CD yX8_becomes cX8_becomes 4 (some .int) 2 := ⟨List.mem_of_getElem? (i := 281) (by decide +kernel), List.mem_of_getElem? (i := 5) (by decide +kernel), by decide +kernel, by decide, by decide +kernel⟩
theorem iv_X8_becomes : CV yX8_becomes := ⟨List.mem_of_getElem? (i := 279) (by decide +kernel), List.mem_of_getElem? (i := 280) (by decide +kernel)⟩
theorem cd_X7_set : CD yX7_set cX7_set 6 (some .int) 3 := ⟨List.mem_of_getElem? (i := 285) (by decide +kernel), List.mem_of_getElem? (i := 2) (by decide +kernel), by decide +kernel, by decide, by decide +kernel⟩
theorem iv_X7_set : CV yX7_set := ⟨List.mem_of_getElem? (i := 283) (by decide +kernel), List.mem_of_getElem? (i := 284) (by decide +kernel)⟩
theorem cd_X7_fits : CD yX7_fits cX7_fits 2 (some .boolean) 2 := ⟨List.mem_of_getElem? (i := 288) (by decide +kernel), List.mem_of_getElem? (i := 2) (by decide +kernel), by decide +kernel, by decide, by decide +kernel⟩
theorem st_X7_fits : CS yX7_fits := List.mem_of_getElem? (i := 287) (by decide +kernel)
theorem cd_X7_isYard : CD yX7_isYard cX7_isYard 1 (some .boolean) 1 := ⟨List.mem_of_getElem? (i := 291) (by decide +kernel), List.mem_of_getElem? (i := 2) (by decide +kernel), by decide +kernel, by decide, by decide +kernel⟩
theorem st_X7_isYard : CS yX7_isYard := List.mem_of_getElem? (i := 290) (by decide +kernel)
theorem cd_X8_set : CD yX8_set cX8_set 4 (some .int) 3 := ⟨List.mem_of_getElem? (i := 295) (by decide +kernel), List.mem_of_getElem? (i := 5) (by decide +kernel), by decide +kernel, by decide, by decide +kernel⟩
theorem iv_X8_set : CV yX8_set := ⟨List.mem_of_getElem? (i := 293) (by decide +kernel), List.mem_of_getElem? (i := 294) (by decide +kernel)⟩
theorem cd_X8_mostOf : CD yX8_mostOf cX8_mostOf 1 (some .int) 1 := ⟨List.mem_of_getElem? (i := 299) (by decide +kernel), List.mem_of_getElem? (i := 5) (by decide +kernel), by decide +kernel, by decide, by decide +kernel⟩
theorem st_X8_mostOf : CS yX8_mostOf := List.mem_of_getElem? (i := 298) (by decide +kernel)
theorem cd_X7_rule : CD yX7_rule cX7_rule 4 (some .int) 2 := ⟨List.mem_of_getElem? (i := 303) (by decide +kernel), List.mem_of_getElem? (i := 2) (by decide +kernel), by decide +kernel, by decide, by decide +kernel⟩
theorem iv_X7_rule : CV yX7_rule := ⟨List.mem_of_getElem? (i := 301) (by decide +kernel), List.mem_of_getElem? (i := 302) (by decide +kernel)⟩
theorem cd_X8_rule : CD yX8_rule cX8_rule 4 (some .int) 2 := ⟨List.mem_of_getElem? (i := 310) (by decide +kernel), List.mem_of_getElem? (i := 5) (by decide +kernel), by decide +kernel, by decide, by decide +kernel⟩
theorem iv_X8_rule : CV yX8_rule := ⟨List.mem_of_getElem? (i := 308) (by decide +kernel), List.mem_of_getElem? (i := 309) (by decide +kernel)⟩
theorem cd_X7_yard : CD yX7_yard cX7_yard 3 (some .int) 2 := ⟨List.mem_of_getElem? (i := 318) (by decide +kernel), List.mem_of_getElem? (i := 2) (by decide +kernel), by decide +kernel, by decide, by decide +kernel⟩
theorem iv_X7_yard : CV yX7_yard := ⟨List.mem_of_getElem? (i := 316) (by decide +kernel), List.mem_of_getElem? (i := 317) (by decide +kernel)⟩
theorem cd_X8_yard : CD yX8_yard cX8_yard 3 (some .int) 2 := ⟨List.mem_of_getElem? (i := 324) (by decide +kernel), List.mem_of_getElem? (i := 5) (by decide +kernel), by decide +kernel, by decide, by decide +kernel⟩
theorem iv_X8_yard : CV yX8_yard := ⟨List.mem_of_getElem? (i := 322) (by decide +kernel), List.mem_of_getElem? (i := 323) (by decide +kernel)⟩
theorem cd_X8_isYard : CD yX8_isYard cX8_isYard 1 (some .boolean) 1 := ⟨List.mem_of_getElem? (i := 327) (by decide +kernel), List.mem_of_getElem? (i := 5) (by decide +kernel), by decide +kernel, by decide, by decide +kernel⟩
theorem st_X8_isYard : CS yX8_isYard := List.mem_of_getElem? (i := 326) (by decide +kernel)
theorem cd_X7_sweep : CD yX7_sweep cX7_sweep 2 (some .int) 1 := ⟨List.mem_of_getElem? (i := 332) (by decide +kernel), List.mem_of_getElem? (i := 2) (by decide +kernel), by decide +kernel, by decide, by decide +kernel⟩
theorem iv_X7_sweep : CV yX7_sweep := ⟨List.mem_of_getElem? (i := 330) (by decide +kernel), List.mem_of_getElem? (i := 331) (by decide +kernel)⟩
theorem cd_X6_takeAll : CD yX6_takeAll cX6_takeAll 3 (some .int) 1 := ⟨List.mem_of_getElem? (i := 336) (by decide +kernel), List.mem_of_getElem? (i := 27) (by decide +kernel), by decide +kernel, by decide, by decide +kernel⟩
theorem iv_X6_takeAll : CV yX6_takeAll := ⟨List.mem_of_getElem? (i := 334) (by decide +kernel), List.mem_of_getElem? (i := 335) (by decide +kernel)⟩
theorem cd_X8_sweep : CD yX8_sweep cX8_sweep 2 (some .int) 1 := ⟨List.mem_of_getElem? (i := 340) (by decide +kernel), List.mem_of_getElem? (i := 5) (by decide +kernel), by decide +kernel, by decide, by decide +kernel⟩
theorem iv_X8_sweep : CV yX8_sweep := ⟨List.mem_of_getElem? (i := 338) (by decide +kernel), List.mem_of_getElem? (i := 339) (by decide +kernel)⟩
theorem cd_X7_rain : CD yX7_rain cX7_rain 1 (some .int) 0 := ⟨List.mem_of_getElem? (i := 344) (by decide +kernel), List.mem_of_getElem? (i := 2) (by decide +kernel), by decide +kernel, by decide, by decide +kernel⟩
theorem iv_X7_rain : CV yX7_rain := ⟨List.mem_of_getElem? (i := 342) (by decide +kernel), List.mem_of_getElem? (i := 343) (by decide +kernel)⟩
theorem cd_X6_sprout : CD yX6_sprout cX6_sprout 4 (some .int) 0 := ⟨List.mem_of_getElem? (i := 348) (by decide +kernel), List.mem_of_getElem? (i := 27) (by decide +kernel), by decide +kernel, by decide, by decide +kernel⟩
theorem iv_X6_sprout : CV yX6_sprout := ⟨List.mem_of_getElem? (i := 346) (by decide +kernel), List.mem_of_getElem? (i := 347) (by decide +kernel)⟩
theorem cd_X8_rain : CD yX8_rain cX8_rain 4 (some .int) 0 := ⟨List.mem_of_getElem? (i := 352) (by decide +kernel), List.mem_of_getElem? (i := 5) (by decide +kernel), by decide +kernel, by decide, by decide +kernel⟩
theorem iv_X8_rain : CV yX8_rain := ⟨List.mem_of_getElem? (i := 350) (by decide +kernel), List.mem_of_getElem? (i := 351) (by decide +kernel)⟩
theorem cd_X7_deal : CD yX7_deal cX7_deal 4 (some .int) 1 := ⟨List.mem_of_getElem? (i := 356) (by decide +kernel), List.mem_of_getElem? (i := 2) (by decide +kernel), by decide +kernel, by decide, by decide +kernel⟩
theorem iv_X7_deal : CV yX7_deal := ⟨List.mem_of_getElem? (i := 354) (by decide +kernel), List.mem_of_getElem? (i := 355) (by decide +kernel)⟩
theorem cd_X6_drawMule : CD yX6_drawMule cX6_drawMule 5 none 0 := ⟨List.mem_of_getElem? (i := 360) (by decide +kernel), List.mem_of_getElem? (i := 27) (by decide +kernel), by decide +kernel, by decide, by decide +kernel⟩
theorem iv_X6_drawMule : CV yX6_drawMule := ⟨List.mem_of_getElem? (i := 358) (by decide +kernel), List.mem_of_getElem? (i := 359) (by decide +kernel)⟩
theorem cd_X6_draw : CD yX6_draw cX6_draw 1 (some .int) 0 := ⟨List.mem_of_getElem? (i := 364) (by decide +kernel), List.mem_of_getElem? (i := 27) (by decide +kernel), by decide +kernel, by decide, by decide +kernel⟩
theorem iv_X6_draw : CV yX6_draw := ⟨List.mem_of_getElem? (i := 362) (by decide +kernel), List.mem_of_getElem? (i := 363) (by decide +kernel)⟩
theorem cd_X8_deal : CD yX8_deal cX8_deal 6 (some .int) 1 := ⟨List.mem_of_getElem? (i := 370) (by decide +kernel), List.mem_of_getElem? (i := 5) (by decide +kernel), by decide +kernel, by decide, by decide +kernel⟩
theorem iv_X8_deal : CV yX8_deal := ⟨List.mem_of_getElem? (i := 368) (by decide +kernel), List.mem_of_getElem? (i := 369) (by decide +kernel)⟩
theorem cd_X8_drawn : CD yX8_drawn cX8_drawn 1 (some .int) 0 := ⟨List.mem_of_getElem? (i := 375) (by decide +kernel), List.mem_of_getElem? (i := 5) (by decide +kernel), by decide +kernel, by decide, by decide +kernel⟩
theorem iv_X8_drawn : CV yX8_drawn := ⟨List.mem_of_getElem? (i := 373) (by decide +kernel), List.mem_of_getElem? (i := 374) (by decide +kernel)⟩
theorem cd_X7_seed : CD yX7_seed cX7_seed 3 (some .int) 1 := ⟨List.mem_of_getElem? (i := 380) (by decide +kernel), List.mem_of_getElem? (i := 2) (by decide +kernel), by decide +kernel, by decide, by decide +kernel⟩
theorem iv_X7_seed : CV yX7_seed := ⟨List.mem_of_getElem? (i := 378) (by decide +kernel), List.mem_of_getElem? (i := 379) (by decide +kernel)⟩
theorem cd_X8_seed : CD yX8_seed cX8_seed 2 (some .int) 1 := ⟨List.mem_of_getElem? (i := 385) (by decide +kernel), List.mem_of_getElem? (i := 5) (by decide +kernel), by decide +kernel, by decide, by decide +kernel⟩
theorem iv_X8_seed : CV yX8_seed := ⟨List.mem_of_getElem? (i := 383) (by decide +kernel), List.mem_of_getElem? (i := 384) (by decide +kernel)⟩
theorem cd_X7_minutes : CD yX7_minutes cX7_minutes 3 (some .int) 1 := ⟨List.mem_of_getElem? (i := 389) (by decide +kernel), List.mem_of_getElem? (i := 2) (by decide +kernel), by decide +kernel, by decide, by decide +kernel⟩
theorem iv_X7_minutes : CV yX7_minutes := ⟨List.mem_of_getElem? (i := 387) (by decide +kernel), List.mem_of_getElem? (i := 388) (by decide +kernel)⟩
theorem cd_X6_roomFor : CD yX6_roomFor cX6_roomFor 2 (some .int) 1 := ⟨List.mem_of_getElem? (i := 394) (by decide +kernel), List.mem_of_getElem? (i := 27) (by decide +kernel), by decide +kernel, by decide, by decide +kernel⟩
theorem iv_X6_roomFor : CV yX6_roomFor := ⟨List.mem_of_getElem? (i := 392) (by decide +kernel), List.mem_of_getElem? (i := 393) (by decide +kernel)⟩
theorem cd_X6_pass : CD yX6_pass cX6_pass 4 none 1 := ⟨List.mem_of_getElem? (i := 400) (by decide +kernel), List.mem_of_getElem? (i := 27) (by decide +kernel), by decide +kernel, by decide, by decide +kernel⟩
theorem iv_X6_pass : CV yX6_pass := ⟨List.mem_of_getElem? (i := 398) (by decide +kernel), List.mem_of_getElem? (i := 399) (by decide +kernel)⟩
theorem cd_X6_goOn : CD yX6_goOn cX6_goOn 7 none 1 := ⟨List.mem_of_getElem? (i := 404) (by decide +kernel), List.mem_of_getElem? (i := 27) (by decide +kernel), by decide +kernel, by decide, by decide +kernel⟩
theorem iv_X6_goOn : CV yX6_goOn := ⟨List.mem_of_getElem? (i := 402) (by decide +kernel), List.mem_of_getElem? (i := 403) (by decide +kernel)⟩
theorem cd_X6_widenHoles : CD yX6_widenHoles cX6_widenHoles 2 none 0 := ⟨List.mem_of_getElem? (i := 411) (by decide +kernel), List.mem_of_getElem? (i := 27) (by decide +kernel), by decide +kernel, by decide, by decide +kernel⟩
theorem iv_X6_widenHoles : CV yX6_widenHoles := ⟨List.mem_of_getElem? (i := 409) (by decide +kernel), List.mem_of_getElem? (i := 410) (by decide +kernel)⟩
theorem cd_X6_birdsEat : CD yX6_birdsEat cX6_birdsEat 3 none 0 := ⟨List.mem_of_getElem? (i := 415) (by decide +kernel), List.mem_of_getElem? (i := 27) (by decide +kernel), by decide +kernel, by decide, by decide +kernel⟩
theorem iv_X6_birdsEat : CV yX6_birdsEat := ⟨List.mem_of_getElem? (i := 413) (by decide +kernel), List.mem_of_getElem? (i := 414) (by decide +kernel)⟩
theorem cd_X6_gustBlows : CD yX6_gustBlows cX6_gustBlows 4 none 0 := ⟨List.mem_of_getElem? (i := 420) (by decide +kernel), List.mem_of_getElem? (i := 27) (by decide +kernel), by decide +kernel, by decide, by decide +kernel⟩
theorem iv_X6_gustBlows : CV yX6_gustBlows := ⟨List.mem_of_getElem? (i := 418) (by decide +kernel), List.mem_of_getElem? (i := 419) (by decide +kernel)⟩
theorem cd_X8_minutes : CD yX8_minutes cX8_minutes 4 (some .int) 1 := ⟨List.mem_of_getElem? (i := 425) (by decide +kernel), List.mem_of_getElem? (i := 5) (by decide +kernel), by decide +kernel, by decide, by decide +kernel⟩
theorem iv_X8_minutes : CV yX8_minutes := ⟨List.mem_of_getElem? (i := 423) (by decide +kernel), List.mem_of_getElem? (i := 424) (by decide +kernel)⟩
theorem cd_X8_goesOn : CD yX8_goesOn cX8_goesOn 3 none 0 := ⟨List.mem_of_getElem? (i := 429) (by decide +kernel), List.mem_of_getElem? (i := 5) (by decide +kernel), by decide +kernel, by decide, by decide +kernel⟩
theorem iv_X8_goesOn : CV yX8_goesOn := ⟨List.mem_of_getElem? (i := 427) (by decide +kernel), List.mem_of_getElem? (i := 428) (by decide +kernel)⟩
theorem cd_X8_walks : CD yX8_walks cX8_walks 8 none 1 := ⟨List.mem_of_getElem? (i := 433) (by decide +kernel), List.mem_of_getElem? (i := 5) (by decide +kernel), by decide +kernel, by decide, by decide +kernel⟩
theorem iv_X8_walks : CV yX8_walks := ⟨List.mem_of_getElem? (i := 431) (by decide +kernel), List.mem_of_getElem? (i := 432) (by decide +kernel)⟩
theorem cd_X8_gusts : CD yX8_gusts cX8_gusts 4 none 0 := ⟨List.mem_of_getElem? (i := 437) (by decide +kernel), List.mem_of_getElem? (i := 5) (by decide +kernel), by decide +kernel, by decide, by decide +kernel⟩
theorem iv_X8_gusts : CV yX8_gusts := ⟨List.mem_of_getElem? (i := 435) (by decide +kernel), List.mem_of_getElem? (i := 436) (by decide +kernel)⟩
theorem cd_X7_way : CD yX7_way cX7_way 2 (some .int) 1 := ⟨List.mem_of_getElem? (i := 441) (by decide +kernel), List.mem_of_getElem? (i := 2) (by decide +kernel), by decide +kernel, by decide, by decide +kernel⟩
theorem iv_X7_way : CV yX7_way := ⟨List.mem_of_getElem? (i := 439) (by decide +kernel), List.mem_of_getElem? (i := 440) (by decide +kernel)⟩
theorem cd_X7_sumOf : CD yX7_sumOf cX7_sumOf 6 (some .int) 1 := ⟨List.mem_of_getElem? (i := 446) (by decide +kernel), List.mem_of_getElem? (i := 2) (by decide +kernel), by decide +kernel, by decide, by decide +kernel⟩
theorem st_X7_sumOf : CS yX7_sumOf := List.mem_of_getElem? (i := 445) (by decide +kernel)
theorem cd_X6_grainOfAll : CD yX6_grainOfAll cX6_grainOfAll 3 (some .int) 0 := ⟨List.mem_of_getElem? (i := 450) (by decide +kernel), List.mem_of_getElem? (i := 27) (by decide +kernel), by decide +kernel, by decide, by decide +kernel⟩
theorem iv_X6_grainOfAll : CV yX6_grainOfAll := ⟨List.mem_of_getElem? (i := 448) (by decide +kernel), List.mem_of_getElem? (i := 449) (by decide +kernel)⟩
theorem cd_X6_trail : CD yX6_trail cX6_trail 4 (some .int) 0 := ⟨List.mem_of_getElem? (i := 454) (by decide +kernel), List.mem_of_getElem? (i := 27) (by decide +kernel), by decide +kernel, by decide, by decide +kernel⟩
theorem iv_X6_trail : CV yX6_trail := ⟨List.mem_of_getElem? (i := 452) (by decide +kernel), List.mem_of_getElem? (i := 453) (by decide +kernel)⟩
theorem cd_X8_way : CD yX8_way cX8_way 2 (some .int) 1 := ⟨List.mem_of_getElem? (i := 459) (by decide +kernel), List.mem_of_getElem? (i := 5) (by decide +kernel), by decide +kernel, by decide, by decide +kernel⟩
theorem iv_X8_way : CV yX8_way := ⟨List.mem_of_getElem? (i := 457) (by decide +kernel), List.mem_of_getElem? (i := 458) (by decide +kernel)⟩
theorem cd_X8_allOf : CD yX8_allOf cX8_allOf 4 (some .int) 1 := ⟨List.mem_of_getElem? (i := 463) (by decide +kernel), List.mem_of_getElem? (i := 5) (by decide +kernel), by decide +kernel, by decide, by decide +kernel⟩
theorem iv_X8_allOf : CV yX8_allOf := ⟨List.mem_of_getElem? (i := 461) (by decide +kernel), List.mem_of_getElem? (i := 462) (by decide +kernel)⟩
theorem cd_X8_inSacks : CD yX8_inSacks cX8_inSacks 3 (some .int) 0 := ⟨List.mem_of_getElem? (i := 467) (by decide +kernel), List.mem_of_getElem? (i := 5) (by decide +kernel), by decide +kernel, by decide, by decide +kernel⟩
theorem iv_X8_inSacks : CV yX8_inSacks := ⟨List.mem_of_getElem? (i := 465) (by decide +kernel), List.mem_of_getElem? (i := 466) (by decide +kernel)⟩
theorem cd_X8_trail : CD yX8_trail cX8_trail 4 (some .int) 0 := ⟨List.mem_of_getElem? (i := 471) (by decide +kernel), List.mem_of_getElem? (i := 5) (by decide +kernel), by decide +kernel, by decide, by decide +kernel⟩
theorem iv_X8_trail : CV yX8_trail := ⟨List.mem_of_getElem? (i := 469) (by decide +kernel), List.mem_of_getElem? (i := 470) (by decide +kernel)⟩
theorem cd_X7_behind : CD yX7_behind cX7_behind 3 (some .int) 2 := ⟨List.mem_of_getElem? (i := 475) (by decide +kernel), List.mem_of_getElem? (i := 2) (by decide +kernel), by decide +kernel, by decide, by decide +kernel⟩
theorem iv_X7_behind : CV yX7_behind := ⟨List.mem_of_getElem? (i := 473) (by decide +kernel), List.mem_of_getElem? (i := 474) (by decide +kernel)⟩
theorem cd_X6_become : CD yX6_become cX6_become 3 none 1 := ⟨List.mem_of_getElem? (i := 479) (by decide +kernel), List.mem_of_getElem? (i := 27) (by decide +kernel), by decide +kernel, by decide, by decide +kernel⟩
theorem iv_X6_become : CV yX6_become := ⟨List.mem_of_getElem? (i := 477) (by decide +kernel), List.mem_of_getElem? (i := 478) (by decide +kernel)⟩
theorem cd_X0_become : CD yX0_become cX0_become 2 none 1 := ⟨List.mem_of_getElem? (i := 488) (by decide +kernel), List.mem_of_getElem? (i := 64) (by decide +kernel), by decide +kernel, by decide, by decide +kernel⟩
theorem iv_X0_become : CV yX0_become := ⟨List.mem_of_getElem? (i := 486) (by decide +kernel), List.mem_of_getElem? (i := 487) (by decide +kernel)⟩
theorem cd_X8_behind : CD yX8_behind cX8_behind 4 (some .int) 2 := ⟨List.mem_of_getElem? (i := 495) (by decide +kernel), List.mem_of_getElem? (i := 5) (by decide +kernel), by decide +kernel, by decide, by decide +kernel⟩
theorem iv_X8_behind : CV yX8_behind := ⟨List.mem_of_getElem? (i := 493) (by decide +kernel), List.mem_of_getElem? (i := 494) (by decide +kernel)⟩
theorem cd_X8_laysBy : CD yX8_laysBy cX8_laysBy 2 none 0 := ⟨List.mem_of_getElem? (i := 499) (by decide +kernel), List.mem_of_getElem? (i := 5) (by decide +kernel), by decide +kernel, by decide, by decide +kernel⟩
theorem iv_X8_laysBy : CV yX8_laysBy := ⟨List.mem_of_getElem? (i := 497) (by decide +kernel), List.mem_of_getElem? (i := 498) (by decide +kernel)⟩
theorem cd_X8_goesOnMany : CD yX8_goesOnMany cX8_goesOnMany 3 none 1 := ⟨List.mem_of_getElem? (i := 503) (by decide +kernel), List.mem_of_getElem? (i := 5) (by decide +kernel), by decide +kernel, by decide, by decide +kernel⟩
theorem iv_X8_goesOnMany : CV yX8_goesOnMany := ⟨List.mem_of_getElem? (i := 501) (by decide +kernel), List.mem_of_getElem? (i := 502) (by decide +kernel)⟩
theorem cd_X8_laysBack : CD yX8_laysBack cX8_laysBack 2 none 0 := ⟨List.mem_of_getElem? (i := 507) (by decide +kernel), List.mem_of_getElem? (i := 5) (by decide +kernel), by decide +kernel, by decide, by decide +kernel⟩
theorem iv_X8_laysBack : CV yX8_laysBack := ⟨List.mem_of_getElem? (i := 505) (by decide +kernel), List.mem_of_getElem? (i := 506) (by decide +kernel)⟩
theorem cd_X7_empty : CD yX7_empty cX7_empty 2 (some .int) 0 := ⟨List.mem_of_getElem? (i := 511) (by decide +kernel), List.mem_of_getElem? (i := 2) (by decide +kernel), by decide +kernel, by decide, by decide +kernel⟩
theorem iv_X7_empty : CV yX7_empty := ⟨List.mem_of_getElem? (i := 509) (by decide +kernel), List.mem_of_getElem? (i := 510) (by decide +kernel)⟩
theorem cd_X6_isThrough : CD yX6_isThrough cX6_isThrough 2 (some .boolean) 0 := ⟨List.mem_of_getElem? (i := 516) (by decide +kernel), List.mem_of_getElem? (i := 27) (by decide +kernel), by decide +kernel, by decide, by decide +kernel⟩
theorem iv_X6_isThrough : CV yX6_isThrough := ⟨List.mem_of_getElem? (i := 514) (by decide +kernel), List.mem_of_getElem? (i := 515) (by decide +kernel)⟩
theorem cd_X8_empty : CD yX8_empty cX8_empty 3 (some .int) 0 := ⟨List.mem_of_getElem? (i := 520) (by decide +kernel), List.mem_of_getElem? (i := 5) (by decide +kernel), by decide +kernel, by decide, by decide +kernel⟩
theorem iv_X8_empty : CV yX8_empty := ⟨List.mem_of_getElem? (i := 518) (by decide +kernel), List.mem_of_getElem? (i := 519) (by decide +kernel)⟩
theorem cd_X8_isEmpty : CD yX8_isEmpty cX8_isEmpty 2 (some .boolean) 0 := ⟨List.mem_of_getElem? (i := 524) (by decide +kernel), List.mem_of_getElem? (i := 5) (by decide +kernel), by decide +kernel, by decide, by decide +kernel⟩
theorem iv_X8_isEmpty : CV yX8_isEmpty := ⟨List.mem_of_getElem? (i := 522) (by decide +kernel), List.mem_of_getElem? (i := 523) (by decide +kernel)⟩
theorem cd_X8_orNone : CD yX8_orNone cX8_orNone 1 (some .int) 1 := ⟨List.mem_of_getElem? (i := 527) (by decide +kernel), List.mem_of_getElem? (i := 5) (by decide +kernel), by decide +kernel, by decide, by decide +kernel⟩
theorem st_X8_orNone : CS yX8_orNone := List.mem_of_getElem? (i := 526) (by decide +kernel)
theorem cd_X7_thickest : CD yX7_thickest cX7_thickest 4 (some .int) 2 := ⟨List.mem_of_getElem? (i := 532) (by decide +kernel), List.mem_of_getElem? (i := 2) (by decide +kernel), by decide +kernel, by decide, by decide +kernel⟩
theorem iv_X7_thickest : CV yX7_thickest := ⟨List.mem_of_getElem? (i := 530) (by decide +kernel), List.mem_of_getElem? (i := 531) (by decide +kernel)⟩
theorem cd_X6_fullestYard : CD yX6_fullestYard cX6_fullestYard 3 (some .int) 0 := ⟨List.mem_of_getElem? (i := 536) (by decide +kernel), List.mem_of_getElem? (i := 27) (by decide +kernel), by decide +kernel, by decide, by decide +kernel⟩
theorem iv_X6_fullestYard : CV yX6_fullestYard := ⟨List.mem_of_getElem? (i := 534) (by decide +kernel), List.mem_of_getElem? (i := 535) (by decide +kernel)⟩
theorem cd_X8_thickest : CD yX8_thickest cX8_thickest 5 (some .int) 2 := ⟨List.mem_of_getElem? (i := 540) (by decide +kernel), List.mem_of_getElem? (i := 5) (by decide +kernel), by decide +kernel, by decide, by decide +kernel⟩
theorem iv_X8_thickest : CV yX8_thickest := ⟨List.mem_of_getElem? (i := 538) (by decide +kernel), List.mem_of_getElem? (i := 539) (by decide +kernel)⟩
theorem cd_X7_patch : CD yX7_patch cX7_patch 7 (some .int) 2 := ⟨List.mem_of_getElem? (i := 544) (by decide +kernel), List.mem_of_getElem? (i := 2) (by decide +kernel), by decide +kernel, by decide, by decide +kernel⟩
theorem iv_X7_patch : CV yX7_patch := ⟨List.mem_of_getElem? (i := 542) (by decide +kernel), List.mem_of_getElem? (i := 543) (by decide +kernel)⟩
theorem cd_X7_leftIfPatched : CD yX7_leftIfPatched cX7_leftIfPatched 3 (some .int) 2 := ⟨List.mem_of_getElem? (i := 548) (by decide +kernel), List.mem_of_getElem? (i := 2) (by decide +kernel), by decide +kernel, by decide, by decide +kernel⟩
theorem iv_X7_leftIfPatched : CV yX7_leftIfPatched := ⟨List.mem_of_getElem? (i := 546) (by decide +kernel), List.mem_of_getElem? (i := 547) (by decide +kernel)⟩
theorem cd_X8_patch : CD yX8_patch cX8_patch 7 (some .int) 2 := ⟨List.mem_of_getElem? (i := 552) (by decide +kernel), List.mem_of_getElem? (i := 5) (by decide +kernel), by decide +kernel, by decide, by decide +kernel⟩
theorem iv_X8_patch : CV yX8_patch := ⟨List.mem_of_getElem? (i := 550) (by decide +kernel), List.mem_of_getElem? (i := 551) (by decide +kernel)⟩
theorem cd_X7_pan : CD yX7_pan cX7_pan 5 (some .int) 2 := ⟨List.mem_of_getElem? (i := 557) (by decide +kernel), List.mem_of_getElem? (i := 2) (by decide +kernel), by decide +kernel, by decide, by decide +kernel⟩
theorem iv_X7_pan : CV yX7_pan := ⟨List.mem_of_getElem? (i := 555) (by decide +kernel), List.mem_of_getElem? (i := 556) (by decide +kernel)⟩
theorem cd_X8_pan : CD yX8_pan cX8_pan 5 (some .int) 2 := ⟨List.mem_of_getElem? (i := 561) (by decide +kernel), List.mem_of_getElem? (i := 5) (by decide +kernel), by decide +kernel, by decide, by decide +kernel⟩
theorem iv_X8_pan : CV yX8_pan := ⟨List.mem_of_getElem? (i := 559) (by decide +kernel), List.mem_of_getElem? (i := 560) (by decide +kernel)⟩
theorem cd_X7_whose : CD yX7_whose cX7_whose 9 (some .int) 3 := ⟨List.mem_of_getElem? (i := 565) (by decide +kernel), List.mem_of_getElem? (i := 2) (by decide +kernel), by decide +kernel, by decide, by decide +kernel⟩
theorem iv_X7_whose : CV yX7_whose := ⟨List.mem_of_getElem? (i := 563) (by decide +kernel), List.mem_of_getElem? (i := 564) (by decide +kernel)⟩
theorem cd_X7_isSheet : CD yX7_isSheet cX7_isSheet 1 (some .boolean) 1 := ⟨List.mem_of_getElem? (i := 569) (by decide +kernel), List.mem_of_getElem? (i := 2) (by decide +kernel), by decide +kernel, by decide, by decide +kernel⟩
theorem st_X7_isSheet : CS yX7_isSheet := List.mem_of_getElem? (i := 568) (by decide +kernel)
theorem cd_X1_isMissing : CD yX1_isMissing cX1_isMissing 1 (some .boolean) 0 := ⟨List.mem_of_getElem? (i := 573) (by decide +kernel), List.mem_of_getElem? (i := 34) (by decide +kernel), by decide +kernel, by decide, by decide +kernel⟩
theorem iv_X1_isMissing : CV yX1_isMissing := ⟨List.mem_of_getElem? (i := 571) (by decide +kernel), List.mem_of_getElem? (i := 572) (by decide +kernel)⟩
theorem cd_X7_differenceIfAlone : CD yX7_differenceIfAlone cX7_differenceIfAlone 6 (some .int) 3 := ⟨List.mem_of_getElem? (i := 577) (by decide +kernel), List.mem_of_getElem? (i := 2) (by decide +kernel), by decide +kernel, by decide, by decide +kernel⟩
theorem iv_X7_differenceIfAlone : CV yX7_differenceIfAlone := ⟨List.mem_of_getElem? (i := 575) (by decide +kernel), List.mem_of_getElem? (i := 576) (by decide +kernel)⟩
theorem cd_X1_hasNumber : CD yX1_hasNumber cX1_hasNumber 2 (some .boolean) 1 := ⟨List.mem_of_getElem? (i := 586) (by decide +kernel), List.mem_of_getElem? (i := 34) (by decide +kernel), by decide +kernel, by decide, by decide +kernel⟩
theorem iv_X1_hasNumber : CV yX1_hasNumber := ⟨List.mem_of_getElem? (i := 584) (by decide +kernel), List.mem_of_getElem? (i := 585) (by decide +kernel)⟩
theorem cd_X1_has : CD yX1_has cX1_has 2 (some .boolean) 1 := ⟨List.mem_of_getElem? (i := 591) (by decide +kernel), List.mem_of_getElem? (i := 34) (by decide +kernel), by decide +kernel, by decide, by decide +kernel⟩
theorem iv_X1_has : CV yX1_has := ⟨List.mem_of_getElem? (i := 589) (by decide +kernel), List.mem_of_getElem? (i := 590) (by decide +kernel)⟩
theorem cd_X8_whose : CD yX8_whose cX8_whose 10 (some .int) 3 := ⟨List.mem_of_getElem? (i := 596) (by decide +kernel), List.mem_of_getElem? (i := 5) (by decide +kernel), by decide +kernel, by decide, by decide +kernel⟩
theorem iv_X8_whose : CV yX8_whose := ⟨List.mem_of_getElem? (i := 594) (by decide +kernel), List.mem_of_getElem? (i := 595) (by decide +kernel)⟩
theorem cd_X8_isSheet : CD yX8_isSheet cX8_isSheet 1 (some .boolean) 1 := ⟨List.mem_of_getElem? (i := 600) (by decide +kernel), List.mem_of_getElem? (i := 5) (by decide +kernel), by decide +kernel, by decide, by decide +kernel⟩
theorem st_X8_isSheet : CS yX8_isSheet := List.mem_of_getElem? (i := 599) (by decide +kernel)
theorem cd_X8_off : CD yX8_off cX8_off 2 (some .int) 2 := ⟨List.mem_of_getElem? (i := 603) (by decide +kernel), List.mem_of_getElem? (i := 5) (by decide +kernel), by decide +kernel, by decide, by decide +kernel⟩
theorem st_X8_off : CS yX8_off := List.mem_of_getElem? (i := 602) (by decide +kernel)
theorem cd_X7_fee : CD yX7_fee cX7_fee 1 (some .int) 0 := ⟨List.mem_of_getElem? (i := 607) (by decide +kernel), List.mem_of_getElem? (i := 2) (by decide +kernel), by decide +kernel, by decide, by decide +kernel⟩
theorem iv_X7_fee : CV yX7_fee := ⟨List.mem_of_getElem? (i := 605) (by decide +kernel), List.mem_of_getElem? (i := 606) (by decide +kernel)⟩
theorem cd_X8_fee : CD yX8_fee cX8_fee 2 (some .int) 0 := ⟨List.mem_of_getElem? (i := 612) (by decide +kernel), List.mem_of_getElem? (i := 5) (by decide +kernel), by decide +kernel, by decide, by decide +kernel⟩
theorem iv_X8_fee : CV yX8_fee := ⟨List.mem_of_getElem? (i := 610) (by decide +kernel), List.mem_of_getElem? (i := 611) (by decide +kernel)⟩
theorem cd_X7_fine : CD yX7_fine cX7_fine 3 (some .int) 1 := ⟨List.mem_of_getElem? (i := 616) (by decide +kernel), List.mem_of_getElem? (i := 2) (by decide +kernel), by decide +kernel, by decide, by decide +kernel⟩
theorem iv_X7_fine : CV yX7_fine := ⟨List.mem_of_getElem? (i := 614) (by decide +kernel), List.mem_of_getElem? (i := 615) (by decide +kernel)⟩
theorem cd_X8_fine : CD yX8_fine cX8_fine 3 (some .int) 1 := ⟨List.mem_of_getElem? (i := 620) (by decide +kernel), List.mem_of_getElem? (i := 5) (by decide +kernel), by decide +kernel, by decide, by decide +kernel⟩
theorem iv_X8_fine : CV yX8_fine := ⟨List.mem_of_getElem? (i := 618) (by decide +kernel), List.mem_of_getElem? (i := 619) (by decide +kernel)⟩
theorem cd_X7_feed : CD yX7_feed cX7_feed 4 (some .int) 3 := ⟨List.mem_of_getElem? (i := 624) (by decide +kernel), List.mem_of_getElem? (i := 2) (by decide +kernel), by decide +kernel, by decide, by decide +kernel⟩
theorem iv_X7_feed : CV yX7_feed := ⟨List.mem_of_getElem? (i := 622) (by decide +kernel), List.mem_of_getElem? (i := 623) (by decide +kernel)⟩
theorem cd_X3_addBytesOf : CD yX3_addBytesOf cX3_addBytesOf 3 none 1 := ⟨List.mem_of_getElem? (i := 629) (by decide +kernel), List.mem_of_getElem? (i := 19) (by decide +kernel), by decide +kernel, by decide, by decide +kernel⟩
theorem iv_X3_addBytesOf : CV yX3_addBytesOf := ⟨List.mem_of_getElem? (i := 627) (by decide +kernel), List.mem_of_getElem? (i := 628) (by decide +kernel)⟩
theorem cd_X8_feed : CD yX8_feed cX8_feed 6 (some .int) 3 := ⟨List.mem_of_getElem? (i := 634) (by decide +kernel), List.mem_of_getElem? (i := 5) (by decide +kernel), by decide +kernel, by decide, by decide +kernel⟩
theorem iv_X8_feed : CV yX8_feed := ⟨List.mem_of_getElem? (i := 632) (by decide +kernel), List.mem_of_getElem? (i := 633) (by decide +kernel)⟩
theorem cd_X7_trim : CD yX7_trim cX7_trim 2 (some .int) 1 := ⟨List.mem_of_getElem? (i := 639) (by decide +kernel), List.mem_of_getElem? (i := 2) (by decide +kernel), by decide +kernel, by decide, by decide +kernel⟩
theorem iv_X7_trim : CV yX7_trim := ⟨List.mem_of_getElem? (i := 637) (by decide +kernel), List.mem_of_getElem? (i := 638) (by decide +kernel)⟩
theorem cd_X8_trim : CD yX8_trim cX8_trim 2 (some .int) 1 := ⟨List.mem_of_getElem? (i := 643) (by decide +kernel), List.mem_of_getElem? (i := 5) (by decide +kernel), by decide +kernel, by decide, by decide +kernel⟩
theorem iv_X8_trim : CV yX8_trim := ⟨List.mem_of_getElem? (i := 641) (by decide +kernel), List.mem_of_getElem? (i := 642) (by decide +kernel)⟩
theorem cd_X7_text : CD yX7_text cX7_text 3 (some .int) 0 := ⟨List.mem_of_getElem? (i := 647) (by decide +kernel), List.mem_of_getElem? (i := 2) (by decide +kernel), by decide +kernel, by decide, by decide +kernel⟩
theorem iv_X7_text : CV yX7_text := ⟨List.mem_of_getElem? (i := 645) (by decide +kernel), List.mem_of_getElem? (i := 646) (by decide +kernel)⟩
theorem cd_X5_readTape : CD yX5_readTape cX5_readTape 1 (some .boolean) 0 := ⟨List.mem_of_getElem? (i := 656) (by decide +kernel), List.mem_of_getElem? (i := 23) (by decide +kernel), by decide +kernel, by decide, by decide +kernel⟩
theorem iv_X5_readTape : CV yX5_readTape := ⟨List.mem_of_getElem? (i := 654) (by decide +kernel), List.mem_of_getElem? (i := 655) (by decide +kernel)⟩
theorem cd_X5_stepOn : CD yX5_stepOn cX5_stepOn 4 none 0 := ⟨List.mem_of_getElem? (i := 662) (by decide +kernel), List.mem_of_getElem? (i := 23) (by decide +kernel), by decide +kernel, by decide, by decide +kernel⟩
theorem iv_X5_stepOn : CV yX5_stepOn := ⟨List.mem_of_getElem? (i := 660) (by decide +kernel), List.mem_of_getElem? (i := 661) (by decide +kernel)⟩
theorem cd_X3_byteAt : CD yX3_byteAt cX3_byteAt 2 (some .int) 1 := ⟨List.mem_of_getElem? (i := 668) (by decide +kernel), List.mem_of_getElem? (i := 19) (by decide +kernel), by decide +kernel, by decide, by decide +kernel⟩
theorem iv_X3_byteAt : CV yX3_byteAt := ⟨List.mem_of_getElem? (i := 666) (by decide +kernel), List.mem_of_getElem? (i := 667) (by decide +kernel)⟩
theorem cd_X5_sortOf : CD yX5_sortOf cX5_sortOf 1 (some .int) 1 := ⟨List.mem_of_getElem? (i := 671) (by decide +kernel), List.mem_of_getElem? (i := 23) (by decide +kernel), by decide +kernel, by decide, by decide +kernel⟩
theorem st_X5_sortOf : CS yX5_sortOf := List.mem_of_getElem? (i := 670) (by decide +kernel)
theorem cd_X5_readKey : CD yX5_readKey cX5_readKey 2 (some .boolean) 0 := ⟨List.mem_of_getElem? (i := 675) (by decide +kernel), List.mem_of_getElem? (i := 23) (by decide +kernel), by decide +kernel, by decide, by decide +kernel⟩
theorem iv_X5_readKey : CV yX5_readKey := ⟨List.mem_of_getElem? (i := 673) (by decide +kernel), List.mem_of_getElem? (i := 674) (by decide +kernel)⟩
theorem cd_X5_wordOf : CD yX5_wordOf cX5_wordOf 1 (some (.object "java/lang/String")) 1 := ⟨List.mem_of_getElem? (i := 678) (by decide +kernel), List.mem_of_getElem? (i := 23) (by decide +kernel), by decide +kernel, by decide, by decide +kernel⟩
theorem st_X5_wordOf : CS yX5_wordOf := List.mem_of_getElem? (i := 677) (by decide +kernel)
theorem cd_X5_spells : CD yX5_spells cX5_spells 3 (some .boolean) 1 := ⟨List.mem_of_getElem? (i := 682) (by decide +kernel), List.mem_of_getElem? (i := 23) (by decide +kernel), by decide +kernel, by decide, by decide +kernel⟩
theorem iv_X5_spells : CV yX5_spells := ⟨List.mem_of_getElem? (i := 680) (by decide +kernel), List.mem_of_getElem? (i := 681) (by decide +kernel)⟩
theorem cd_J0_length_8abf5 : CD yJ0_length_8abf5 cJ0_length_8abf5 1 (some .int) 0 := ⟨List.mem_of_getElem? (i := 687) (by decide +kernel), List.mem_of_getElem? (i := 686) (by decide +kernel), by decide +kernel, by decide, by decide +kernel⟩
theorem iv_J0_length_8abf5 : CV yJ0_length_8abf5 := ⟨List.mem_of_getElem? (i := 684) (by decide +kernel), List.mem_of_getElem? (i := 685) (by decide +kernel)⟩
theorem cd_J0_coder_7d493 : CD yJ0_coder_7d493 cJ0_coder_7d493 1 (some .byte) 0 := ⟨List.mem_of_getElem? (i := 692) (by decide +kernel), List.mem_of_getElem? (i := 686) (by decide +kernel), by decide +kernel, by decide, by decide +kernel⟩
theorem iv_J0_coder_7d493 : CV yJ0_coder_7d493 := ⟨List.mem_of_getElem? (i := 690) (by decide +kernel), List.mem_of_getElem? (i := 691) (by decide +kernel)⟩
theorem cd_J0_charAt_5068e : CD yJ0_charAt_5068e cJ0_charAt_5068e 2 (some .char) 1 := ⟨List.mem_of_getElem? (i := 698) (by decide +kernel), List.mem_of_getElem? (i := 686) (by decide +kernel), by decide +kernel, by decide, by decide +kernel⟩
theorem iv_J0_charAt_5068e : CV yJ0_charAt_5068e := ⟨List.mem_of_getElem? (i := 696) (by decide +kernel), List.mem_of_getElem? (i := 697) (by decide +kernel)⟩
theorem cd_J0_isLatin1_aae02 : CD yJ0_isLatin1_aae02 cJ0_isLatin1_aae02 1 (some .boolean) 0 := ⟨List.mem_of_getElem? (i := 702) (by decide +kernel), List.mem_of_getElem? (i := 686) (by decide +kernel), by decide +kernel, by decide, by decide +kernel⟩
theorem iv_J0_isLatin1_aae02 : CV yJ0_isLatin1_aae02 := ⟨List.mem_of_getElem? (i := 700) (by decide +kernel), List.mem_of_getElem? (i := 701) (by decide +kernel)⟩
theorem cd_J1_charAt_3b067 : CD yJ1_charAt_3b067 cJ1_charAt_3b067 2 (some .char) 2 := ⟨List.mem_of_getElem? (i := 706) (by decide +kernel), List.mem_of_getElem? (i := 705) (by decide +kernel), by decide +kernel, by decide, by decide +kernel⟩
theorem st_J1_charAt_3b067 : CS yJ1_charAt_3b067 := List.mem_of_getElem? (i := 704) (by decide +kernel)
theorem cd_J0_checkIndex_df160 : CD yJ0_checkIndex_df160 cJ0_checkIndex_df160 2 none 2 := ⟨List.mem_of_getElem? (i := 709) (by decide +kernel), List.mem_of_getElem? (i := 686) (by decide +kernel), by decide +kernel, by decide, by decide +kernel⟩
theorem st_J0_checkIndex_df160 : CS yJ0_checkIndex_df160 := List.mem_of_getElem? (i := 708) (by decide +kernel)
theorem cd_J3_checkIndex_8e157 : CD yJ3_checkIndex_8e157 cJ3_checkIndex_8e157 3 (some .int) 3 := ⟨List.mem_of_getElem? (i := 714) (by decide +kernel), List.mem_of_getElem? (i := 713) (by decide +kernel), by decide +kernel, by decide, by decide +kernel⟩
theorem st_J3_checkIndex_8e157 : CS yJ3_checkIndex_8e157 := List.mem_of_getElem? (i := 712) (by decide +kernel)
theorem cd_J2_charAt_3b067 : CD yJ2_charAt_3b067 cJ2_charAt_3b067 2 (some .char) 2 := ⟨List.mem_of_getElem? (i := 718) (by decide +kernel), List.mem_of_getElem? (i := 717) (by decide +kernel), by decide +kernel, by decide, by decide +kernel⟩
theorem st_J2_charAt_3b067 : CS yJ2_charAt_3b067 := List.mem_of_getElem? (i := 716) (by decide +kernel)
theorem cd_J2_checkIndex_2214a : CD yJ2_checkIndex_2214a cJ2_checkIndex_2214a 2 none 2 := ⟨List.mem_of_getElem? (i := 721) (by decide +kernel), List.mem_of_getElem? (i := 717) (by decide +kernel), by decide +kernel, by decide, by decide +kernel⟩
theorem st_J2_checkIndex_2214a : CS yJ2_checkIndex_2214a := List.mem_of_getElem? (i := 720) (by decide +kernel)
theorem cd_J2_length_9d52b : CD yJ2_length_9d52b cJ2_length_9d52b 1 (some .int) 1 := ⟨List.mem_of_getElem? (i := 724) (by decide +kernel), List.mem_of_getElem? (i := 717) (by decide +kernel), by decide +kernel, by decide, by decide +kernel⟩
theorem st_J2_length_9d52b : CS yJ2_length_9d52b := List.mem_of_getElem? (i := 723) (by decide +kernel)
theorem cd_J2_getChar_3b067 : CD yJ2_getChar_3b067 cJ2_getChar_3b067 2 (some .char) 2 := ⟨List.mem_of_getElem? (i := 728) (by decide +kernel), List.mem_of_getElem? (i := 717) (by decide +kernel), by decide +kernel, by decide, by decide +kernel⟩
theorem st_J2_getChar_3b067 : CS yJ2_getChar_3b067 := List.mem_of_getElem? (i := 727) (by decide +kernel)
theorem cd_X4_begin : CD yX4_begin cX4_begin 2 none 1 := ⟨List.mem_of_getElem? (i := 735) (by decide +kernel), List.mem_of_getElem? (i := 16) (by decide +kernel), by decide +kernel, by decide, by decide +kernel⟩
theorem iv_X4_begin : CV yX4_begin := ⟨List.mem_of_getElem? (i := 733) (by decide +kernel), List.mem_of_getElem? (i := 734) (by decide +kernel)⟩
theorem cd_X5_readLevel : CD yX5_readLevel cX5_readLevel 7 (some .boolean) 3 := ⟨List.mem_of_getElem? (i := 741) (by decide +kernel), List.mem_of_getElem? (i := 23) (by decide +kernel), by decide +kernel, by decide, by decide +kernel⟩
theorem iv_X5_readLevel : CV yX5_readLevel := ⟨List.mem_of_getElem? (i := 739) (by decide +kernel), List.mem_of_getElem? (i := 740) (by decide +kernel)⟩
theorem cd_X5_signsOf : CD yX5_signsOf cX5_signsOf 1 (some (.object "java/lang/String")) 1 := ⟨List.mem_of_getElem? (i := 747) (by decide +kernel), List.mem_of_getElem? (i := 23) (by decide +kernel), by decide +kernel, by decide, by decide +kernel⟩
theorem st_X5_signsOf : CS yX5_signsOf := List.mem_of_getElem? (i := 746) (by decide +kernel)
theorem cd_X5_isOneOf : CD yX5_isOneOf cX5_isOneOf 2 (some .boolean) 1 := ⟨List.mem_of_getElem? (i := 751) (by decide +kernel), List.mem_of_getElem? (i := 23) (by decide +kernel), by decide +kernel, by decide, by decide +kernel⟩
theorem iv_X5_isOneOf : CV yX5_isOneOf := ⟨List.mem_of_getElem? (i := 749) (by decide +kernel), List.mem_of_getElem? (i := 750) (by decide +kernel)⟩
theorem cd_J0_indexOf_0f7a4 : CD yJ0_indexOf_0f7a4 cJ0_indexOf_0f7a4 2 (some .int) 1 := ⟨List.mem_of_getElem? (i := 755) (by decide +kernel), List.mem_of_getElem? (i := 686) (by decide +kernel), by decide +kernel, by decide, by decide +kernel⟩
theorem iv_J0_indexOf_0f7a4 : CV yJ0_indexOf_0f7a4 := ⟨List.mem_of_getElem? (i := 753) (by decide +kernel), List.mem_of_getElem? (i := 754) (by decide +kernel)⟩
theorem cd_J0_indexOf_7cf53 : CD yJ0_indexOf_7cf53 cJ0_indexOf_7cf53 3 (some .int) 2 := ⟨List.mem_of_getElem? (i := 759) (by decide +kernel), List.mem_of_getElem? (i := 686) (by decide +kernel), by decide +kernel, by decide, by decide +kernel⟩
theorem iv_J0_indexOf_7cf53 : CV yJ0_indexOf_7cf53 := ⟨List.mem_of_getElem? (i := 757) (by decide +kernel), List.mem_of_getElem? (i := 758) (by decide +kernel)⟩
theorem cd_J1_indexOf_4cfef : CD yJ1_indexOf_4cfef cJ1_indexOf_4cfef 4 (some .int) 4 := ⟨List.mem_of_getElem? (i := 763) (by decide +kernel), List.mem_of_getElem? (i := 705) (by decide +kernel), by decide +kernel, by decide, by decide +kernel⟩
theorem st_J1_indexOf_4cfef : CS yJ1_indexOf_4cfef := List.mem_of_getElem? (i := 762) (by decide +kernel)
theorem cd_J1_canEncode_9a6ad : CD yJ1_canEncode_9a6ad cJ1_canEncode_9a6ad 1 (some .boolean) 1 := ⟨List.mem_of_getElem? (i := 768) (by decide +kernel), List.mem_of_getElem? (i := 705) (by decide +kernel), by decide +kernel, by decide, by decide +kernel⟩
theorem st_J1_canEncode_9a6ad : CS yJ1_canEncode_9a6ad := List.mem_of_getElem? (i := 767) (by decide +kernel)
theorem cd_J1_indexOfChar_4cfef : CD yJ1_indexOfChar_4cfef cJ1_indexOfChar_4cfef 6 (some .int) 4 := ⟨List.mem_of_getElem? (i := 771) (by decide +kernel), List.mem_of_getElem? (i := 705) (by decide +kernel), by decide +kernel, by decide, by decide +kernel⟩
theorem st_J1_indexOfChar_4cfef : CS yJ1_indexOfChar_4cfef := List.mem_of_getElem? (i := 770) (by decide +kernel)
theorem cd_J2_indexOf_4cfef : CD yJ2_indexOf_4cfef cJ2_indexOf_4cfef 4 (some .int) 4 := ⟨List.mem_of_getElem? (i := 774) (by decide +kernel), List.mem_of_getElem? (i := 717) (by decide +kernel), by decide +kernel, by decide, by decide +kernel⟩
theorem st_J2_indexOf_4cfef : CS yJ2_indexOf_4cfef := List.mem_of_getElem? (i := 773) (by decide +kernel)
theorem cd_J2_indexOfChar_4cfef : CD yJ2_indexOfChar_4cfef cJ2_indexOfChar_4cfef 4 (some .int) 4 := ⟨List.mem_of_getElem? (i := 780) (by decide +kernel), List.mem_of_getElem? (i := 717) (by decide +kernel), by decide +kernel, by decide, by decide +kernel⟩
theorem st_J2_indexOfChar_4cfef : CS yJ2_indexOfChar_4cfef := List.mem_of_getElem? (i := 779) (by decide +kernel)
theorem cd_J2_checkBoundsBeginEnd_d044e : CD yJ2_checkBoundsBeginEnd_d044e cJ2_checkBoundsBeginEnd_d044e 3 none 3 := ⟨List.mem_of_getElem? (i := 783) (by decide +kernel), List.mem_of_getElem? (i := 717) (by decide +kernel), by decide +kernel, by decide, by decide +kernel⟩
theorem st_J2_checkBoundsBeginEnd_d044e : CS yJ2_checkBoundsBeginEnd_d044e := List.mem_of_getElem? (i := 782) (by decide +kernel)
theorem cd_J0_checkBoundsBeginEnd_23922 : CD yJ0_checkBoundsBeginEnd_23922 cJ0_checkBoundsBeginEnd_23922 3 none 3 := ⟨List.mem_of_getElem? (i := 786) (by decide +kernel), List.mem_of_getElem? (i := 686) (by decide +kernel), by decide +kernel, by decide, by decide +kernel⟩
theorem st_J0_checkBoundsBeginEnd_23922 : CS yJ0_checkBoundsBeginEnd_23922 := List.mem_of_getElem? (i := 785) (by decide +kernel)
theorem cd_J3_checkFromToIndex_8c36e : CD yJ3_checkFromToIndex_8c36e cJ3_checkFromToIndex_8c36e 4 (some .int) 4 := ⟨List.mem_of_getElem? (i := 789) (by decide +kernel), List.mem_of_getElem? (i := 713) (by decide +kernel), by decide +kernel, by decide, by decide +kernel⟩
theorem st_J3_checkFromToIndex_8c36e : CS yJ3_checkFromToIndex_8c36e := List.mem_of_getElem? (i := 788) (by decide +kernel)
theorem cd_J2_indexOfCharUnsafe_4cfef : CD yJ2_indexOfCharUnsafe_4cfef cJ2_indexOfCharUnsafe_4cfef 5 (some .int) 4 := ⟨List.mem_of_getElem? (i := 792) (by decide +kernel), List.mem_of_getElem? (i := 717) (by decide +kernel), by decide +kernel, by decide, by decide +kernel⟩
theorem st_J2_indexOfCharUnsafe_4cfef : CS yJ2_indexOfCharUnsafe_4cfef := List.mem_of_getElem? (i := 791) (by decide +kernel)
theorem cd_J2_indexOfSupplementary_4cfef : CD yJ2_indexOfSupplementary_4cfef cJ2_indexOfSupplementary_4cfef 7 (some .int) 4 := ⟨List.mem_of_getElem? (i := 795) (by decide +kernel), List.mem_of_getElem? (i := 717) (by decide +kernel), by decide +kernel, by decide, by decide +kernel⟩
theorem st_J2_indexOfSupplementary_4cfef : CS yJ2_indexOfSupplementary_4cfef := List.mem_of_getElem? (i := 794) (by decide +kernel)
theorem cd_J11_isValidCodePoint_9a6ad : CD yJ11_isValidCodePoint_9a6ad cJ11_isValidCodePoint_9a6ad 2 (some .boolean) 1 := ⟨List.mem_of_getElem? (i := 799) (by decide +kernel), List.mem_of_getElem? (i := 798) (by decide +kernel), by decide +kernel, by decide, by decide +kernel⟩
theorem st_J11_isValidCodePoint_9a6ad : CS yJ11_isValidCodePoint_9a6ad := List.mem_of_getElem? (i := 797) (by decide +kernel)
theorem cd_J11_highSurrogate_5068e : CD yJ11_highSurrogate_5068e cJ11_highSurrogate_5068e 1 (some .char) 1 := ⟨List.mem_of_getElem? (i := 802) (by decide +kernel), List.mem_of_getElem? (i := 798) (by decide +kernel), by decide +kernel, by decide, by decide +kernel⟩
theorem st_J11_highSurrogate_5068e : CS yJ11_highSurrogate_5068e := List.mem_of_getElem? (i := 801) (by decide +kernel)
theorem cd_J11_lowSurrogate_5068e : CD yJ11_lowSurrogate_5068e cJ11_lowSurrogate_5068e 1 (some .char) 1 := ⟨List.mem_of_getElem? (i := 806) (by decide +kernel), List.mem_of_getElem? (i := 798) (by decide +kernel), by decide +kernel, by decide, by decide +kernel⟩
theorem st_J11_lowSurrogate_5068e : CS yJ11_lowSurrogate_5068e := List.mem_of_getElem? (i := 805) (by decide +kernel)
theorem cd_X4_addSign : CD yX4_addSign cX4_addSign 2 none 1 := ⟨List.mem_of_getElem? (i := 811) (by decide +kernel), List.mem_of_getElem? (i := 16) (by decide +kernel), by decide +kernel, by decide, by decide +kernel⟩
theorem iv_X4_addSign : CV yX4_addSign := ⟨List.mem_of_getElem? (i := 809) (by decide +kernel), List.mem_of_getElem? (i := 810) (by decide +kernel)⟩
theorem cd_X4_addStep : CD yX4_addStep cX4_addStep 2 none 1 := ⟨List.mem_of_getElem? (i := 815) (by decide +kernel), List.mem_of_getElem? (i := 16) (by decide +kernel), by decide +kernel, by decide, by decide +kernel⟩
theorem iv_X4_addStep : CV yX4_addStep := ⟨List.mem_of_getElem? (i := 813) (by decide +kernel), List.mem_of_getElem? (i := 814) (by decide +kernel)⟩
theorem cd_X5_readBrackets : CD yX5_readBrackets cX5_readBrackets 3 (some .boolean) 2 := ⟨List.mem_of_getElem? (i := 816) (by decide +kernel), List.mem_of_getElem? (i := 23) (by decide +kernel), by decide +kernel, by decide, by decide +kernel⟩
theorem iv_X5_readBrackets : CV yX5_readBrackets := ⟨List.mem_of_getElem? (i := 843) (by decide +kernel), List.mem_of_getElem? (i := 844) (by decide +kernel)⟩
theorem cd_X5_readNot : CD yX5_readNot cX5_readNot 3 (some .boolean) 2 := ⟨List.mem_of_getElem? (i := 817) (by decide +kernel), List.mem_of_getElem? (i := 23) (by decide +kernel), by decide +kernel, by decide, by decide +kernel⟩
theorem iv_X5_readNot : CV yX5_readNot := ⟨List.mem_of_getElem? (i := 840) (by decide +kernel), List.mem_of_getElem? (i := 841) (by decide +kernel)⟩
theorem cd_X5_readPiece : CD yX5_readPiece cX5_readPiece 3 (some .boolean) 2 := ⟨List.mem_of_getElem? (i := 818) (by decide +kernel), List.mem_of_getElem? (i := 23) (by decide +kernel), by decide +kernel, by decide, by decide +kernel⟩
theorem iv_X5_readPiece : CV yX5_readPiece := ⟨List.mem_of_getElem? (i := 743) (by decide +kernel), List.mem_of_getElem? (i := 744) (by decide +kernel)⟩
theorem cd_X5_number : CD yX5_number cX5_number 3 (some .int) 0 := ⟨List.mem_of_getElem? (i := 822) (by decide +kernel), List.mem_of_getElem? (i := 23) (by decide +kernel), by decide +kernel, by decide, by decide +kernel⟩
theorem iv_X5_number : CV yX5_number := ⟨List.mem_of_getElem? (i := 820) (by decide +kernel), List.mem_of_getElem? (i := 821) (by decide +kernel)⟩
theorem cd_X4_addNumber : CD yX4_addNumber cX4_addNumber 2 none 1 := ⟨List.mem_of_getElem? (i := 826) (by decide +kernel), List.mem_of_getElem? (i := 16) (by decide +kernel), by decide +kernel, by decide, by decide +kernel⟩
theorem iv_X4_addNumber : CV yX4_addNumber := ⟨List.mem_of_getElem? (i := 824) (by decide +kernel), List.mem_of_getElem? (i := 825) (by decide +kernel)⟩
theorem cd_X5_readName : CD yX5_readName cX5_readName 2 (some .boolean) 0 := ⟨List.mem_of_getElem? (i := 830) (by decide +kernel), List.mem_of_getElem? (i := 23) (by decide +kernel), by decide +kernel, by decide, by decide +kernel⟩
theorem iv_X5_readName : CV yX5_readName := ⟨List.mem_of_getElem? (i := 828) (by decide +kernel), List.mem_of_getElem? (i := 829) (by decide +kernel)⟩
theorem cd_X5_namesOf : CD yX5_namesOf cX5_namesOf 1 (some (.object "java/lang/String")) 1 := ⟨List.mem_of_getElem? (i := 834) (by decide +kernel), List.mem_of_getElem? (i := 23) (by decide +kernel), by decide +kernel, by decide, by decide +kernel⟩
theorem st_X5_namesOf : CS yX5_namesOf := List.mem_of_getElem? (i := 833) (by decide +kernel)
theorem cd_X4_addName : CD yX4_addName cX4_addName 2 none 1 := ⟨List.mem_of_getElem? (i := 838) (by decide +kernel), List.mem_of_getElem? (i := 16) (by decide +kernel), by decide +kernel, by decide, by decide +kernel⟩
theorem iv_X4_addName : CV yX4_addName := ⟨List.mem_of_getElem? (i := 836) (by decide +kernel), List.mem_of_getElem? (i := 837) (by decide +kernel)⟩
theorem cd_X4_become : CD yX4_become cX4_become 2 none 1 := ⟨List.mem_of_getElem? (i := 848) (by decide +kernel), List.mem_of_getElem? (i := 16) (by decide +kernel), by decide +kernel, by decide, by decide +kernel⟩
theorem iv_X4_become : CV yX4_become := ⟨List.mem_of_getElem? (i := 846) (by decide +kernel), List.mem_of_getElem? (i := 847) (by decide +kernel)⟩
theorem cd_X8_text : CD yX8_text cX8_text 3 (some .int) 0 := ⟨List.mem_of_getElem? (i := 853) (by decide +kernel), List.mem_of_getElem? (i := 5) (by decide +kernel), by decide +kernel, by decide, by decide +kernel⟩
theorem iv_X8_text : CV yX8_text := ⟨List.mem_of_getElem? (i := 851) (by decide +kernel), List.mem_of_getElem? (i := 852) (by decide +kernel)⟩
theorem cd_X8_parse : CD yX8_parse cX8_parse 3 (some .int) 0 := ⟨List.mem_of_getElem? (i := 860) (by decide +kernel), List.mem_of_getElem? (i := 5) (by decide +kernel), by decide +kernel, by decide, by decide +kernel⟩
theorem iv_X8_parse : CV yX8_parse := ⟨List.mem_of_getElem? (i := 858) (by decide +kernel), List.mem_of_getElem? (i := 859) (by decide +kernel)⟩
theorem cd_X8_nextToken : CD yX8_nextToken cX8_nextToken 3 none 0 := ⟨List.mem_of_getElem? (i := 869) (by decide +kernel), List.mem_of_getElem? (i := 5) (by decide +kernel), by decide +kernel, by decide, by decide +kernel⟩
theorem iv_X8_nextToken : CV yX8_nextToken := ⟨List.mem_of_getElem? (i := 867) (by decide +kernel), List.mem_of_getElem? (i := 868) (by decide +kernel)⟩
theorem cd_X8_isLetter : CD yX8_isLetter cX8_isLetter 2 (some .boolean) 1 := ⟨List.mem_of_getElem? (i := 875) (by decide +kernel), List.mem_of_getElem? (i := 5) (by decide +kernel), by decide +kernel, by decide, by decide +kernel⟩
theorem iv_X8_isLetter : CV yX8_isLetter := ⟨List.mem_of_getElem? (i := 873) (by decide +kernel), List.mem_of_getElem? (i := 874) (by decide +kernel)⟩
theorem cd_X8_isDigit : CD yX8_isDigit cX8_isDigit 2 (some .boolean) 1 := ⟨List.mem_of_getElem? (i := 881) (by decide +kernel), List.mem_of_getElem? (i := 5) (by decide +kernel), by decide +kernel, by decide, by decide +kernel⟩
theorem iv_X8_isDigit : CV yX8_isDigit := ⟨List.mem_of_getElem? (i := 879) (by decide +kernel), List.mem_of_getElem? (i := 880) (by decide +kernel)⟩
theorem cd_X8_key : CD yX8_key cX8_key 1 (some .int) 0 := ⟨List.mem_of_getElem? (i := 887) (by decide +kernel), List.mem_of_getElem? (i := 5) (by decide +kernel), by decide +kernel, by decide, by decide +kernel⟩
theorem iv_X8_key : CV yX8_key := ⟨List.mem_of_getElem? (i := 885) (by decide +kernel), List.mem_of_getElem? (i := 886) (by decide +kernel)⟩
theorem cd_X8_isWordAt : CD yX8_isWordAt cX8_isWordAt 6 (some .boolean) 4 := ⟨List.mem_of_getElem? (i := 891) (by decide +kernel), List.mem_of_getElem? (i := 5) (by decide +kernel), by decide +kernel, by decide, by decide +kernel⟩
theorem iv_X8_isWordAt : CV yX8_isWordAt := ⟨List.mem_of_getElem? (i := 889) (by decide +kernel), List.mem_of_getElem? (i := 890) (by decide +kernel)⟩
theorem cd_X8_either : CD yX8_either cX8_either 2 (some .boolean) 1 := ⟨List.mem_of_getElem? (i := 895) (by decide +kernel), List.mem_of_getElem? (i := 5) (by decide +kernel), by decide +kernel, by decide, by decide +kernel⟩
theorem iv_X8_either : CV yX8_either := ⟨List.mem_of_getElem? (i := 893) (by decide +kernel), List.mem_of_getElem? (i := 894) (by decide +kernel)⟩
theorem cd_X8_isSign : CD yX8_isSign cX8_isSign 2 (some .boolean) 1 := ⟨List.mem_of_getElem? (i := 902) (by decide +kernel), List.mem_of_getElem? (i := 5) (by decide +kernel), by decide +kernel, by decide, by decide +kernel⟩
theorem iv_X8_isSign : CV yX8_isSign := ⟨List.mem_of_getElem? (i := 900) (by decide +kernel), List.mem_of_getElem? (i := 901) (by decide +kernel)⟩
theorem cd_X8_step : CD yX8_step cX8_step 3 none 2 := ⟨List.mem_of_getElem? (i := 906) (by decide +kernel), List.mem_of_getElem? (i := 5) (by decide +kernel), by decide +kernel, by decide, by decide +kernel⟩
theorem iv_X8_step : CV yX8_step := ⟨List.mem_of_getElem? (i := 904) (by decide +kernel), List.mem_of_getElem? (i := 905) (by decide +kernel)⟩
theorem cd_X8_both : CD yX8_both cX8_both 2 (some .boolean) 1 := ⟨List.mem_of_getElem? (i := 907) (by decide +kernel), List.mem_of_getElem? (i := 5) (by decide +kernel), by decide +kernel, by decide, by decide +kernel⟩
theorem iv_X8_both : CV yX8_both := ⟨List.mem_of_getElem? (i := 897) (by decide +kernel), List.mem_of_getElem? (i := 898) (by decide +kernel)⟩
theorem cd_X8_part0 : CD yX8_part0 cX8_part0 2 (some .boolean) 1 := ⟨List.mem_of_getElem? (i := 911) (by decide +kernel), List.mem_of_getElem? (i := 5) (by decide +kernel), by decide +kernel, by decide, by decide +kernel⟩
theorem iv_X8_part0 : CV yX8_part0 := ⟨List.mem_of_getElem? (i := 916) (by decide +kernel), List.mem_of_getElem? (i := 917) (by decide +kernel)⟩
theorem cd_X8_isName : CD yX8_isName cX8_isName 2 (some .boolean) 2 := ⟨List.mem_of_getElem? (i := 914) (by decide +kernel), List.mem_of_getElem? (i := 5) (by decide +kernel), by decide +kernel, by decide, by decide +kernel⟩
theorem st_X8_isName : CS yX8_isName := List.mem_of_getElem? (i := 913) (by decide +kernel)
theorem cd_X8_sum : CD yX8_sum cX8_sum 3 (some .boolean) 1 := ⟨List.mem_of_getElem? (i := 918) (by decide +kernel), List.mem_of_getElem? (i := 5) (by decide +kernel), by decide +kernel, by decide, by decide +kernel⟩
theorem iv_X8_sum : CV yX8_sum := ⟨List.mem_of_getElem? (i := 925) (by decide +kernel), List.mem_of_getElem? (i := 926) (by decide +kernel)⟩
theorem cd_X8_term : CD yX8_term cX8_term 3 (some .boolean) 1 := ⟨List.mem_of_getElem? (i := 922) (by decide +kernel), List.mem_of_getElem? (i := 5) (by decide +kernel), by decide +kernel, by decide, by decide +kernel⟩
theorem iv_X8_term : CV yX8_term := ⟨List.mem_of_getElem? (i := 920) (by decide +kernel), List.mem_of_getElem? (i := 921) (by decide +kernel)⟩
theorem cd_X8_test : CD yX8_test cX8_test 3 (some .boolean) 1 := ⟨List.mem_of_getElem? (i := 923) (by decide +kernel), List.mem_of_getElem? (i := 5) (by decide +kernel), by decide +kernel, by decide, by decide +kernel⟩
theorem iv_X8_test : CV yX8_test := ⟨List.mem_of_getElem? (i := 909) (by decide +kernel), List.mem_of_getElem? (i := 910) (by decide +kernel)⟩
theorem cd_X7_textTold : CD yX7_textTold cX7_textTold 3 (some .int) 2 := ⟨List.mem_of_getElem? (i := 930) (by decide +kernel), List.mem_of_getElem? (i := 2) (by decide +kernel), by decide +kernel, by decide, by decide +kernel⟩
theorem iv_X7_textTold : CV yX7_textTold := ⟨List.mem_of_getElem? (i := 928) (by decide +kernel), List.mem_of_getElem? (i := 929) (by decide +kernel)⟩
theorem cd_X8_textTold : CD yX8_textTold cX8_textTold 3 (some .int) 2 := ⟨List.mem_of_getElem? (i := 935) (by decide +kernel), List.mem_of_getElem? (i := 5) (by decide +kernel), by decide +kernel, by decide, by decide +kernel⟩
theorem iv_X8_textTold : CV yX8_textTold := ⟨List.mem_of_getElem? (i := 933) (by decide +kernel), List.mem_of_getElem? (i := 934) (by decide +kernel)⟩
theorem cd_X8_isText : CD yX8_isText cX8_isText 2 (some .boolean) 1 := ⟨List.mem_of_getElem? (i := 939) (by decide +kernel), List.mem_of_getElem? (i := 5) (by decide +kernel), by decide +kernel, by decide, by decide +kernel⟩
theorem iv_X8_isText : CV yX8_isText := ⟨List.mem_of_getElem? (i := 937) (by decide +kernel), List.mem_of_getElem? (i := 938) (by decide +kernel)⟩
theorem cd_X7_why : CD yX7_why cX7_why 2 (some .int) 1 := ⟨List.mem_of_getElem? (i := 943) (by decide +kernel), List.mem_of_getElem? (i := 2) (by decide +kernel), by decide +kernel, by decide, by decide +kernel⟩
theorem iv_X7_why : CV yX7_why := ⟨List.mem_of_getElem? (i := 941) (by decide +kernel), List.mem_of_getElem? (i := 942) (by decide +kernel)⟩
theorem cd_X8_why : CD yX8_why cX8_why 2 (some .int) 1 := ⟨List.mem_of_getElem? (i := 947) (by decide +kernel), List.mem_of_getElem? (i := 5) (by decide +kernel), by decide +kernel, by decide, by decide +kernel⟩
theorem iv_X8_why : CV yX8_why := ⟨List.mem_of_getElem? (i := 945) (by decide +kernel), List.mem_of_getElem? (i := 946) (by decide +kernel)⟩
theorem cd_X7_sheet : CD yX7_sheet cX7_sheet 4 (some .int) 3 := ⟨List.mem_of_getElem? (i := 952) (by decide +kernel), List.mem_of_getElem? (i := 2) (by decide +kernel), by decide +kernel, by decide, by decide +kernel⟩
theorem iv_X7_sheet : CV yX7_sheet := ⟨List.mem_of_getElem? (i := 950) (by decide +kernel), List.mem_of_getElem? (i := 951) (by decide +kernel)⟩
theorem cd_X1_begin : CD yX1_begin cX1_begin 3 none 2 := ⟨List.mem_of_getElem? (i := 957) (by decide +kernel), List.mem_of_getElem? (i := 34) (by decide +kernel), by decide +kernel, by decide, by decide +kernel⟩
theorem iv_X1_begin : CV yX1_begin := ⟨List.mem_of_getElem? (i := 955) (by decide +kernel), List.mem_of_getElem? (i := 956) (by decide +kernel)⟩
theorem cd_X8_sheet : CD yX8_sheet cX8_sheet 5 (some .int) 3 := ⟨List.mem_of_getElem? (i := 962) (by decide +kernel), List.mem_of_getElem? (i := 5) (by decide +kernel), by decide +kernel, by decide, by decide +kernel⟩
theorem iv_X8_sheet : CV yX8_sheet := ⟨List.mem_of_getElem? (i := 960) (by decide +kernel), List.mem_of_getElem? (i := 961) (by decide +kernel)⟩
theorem cd_X7_mark : CD yX7_mark cX7_mark 5 (some .int) 3 := ⟨List.mem_of_getElem? (i := 968) (by decide +kernel), List.mem_of_getElem? (i := 2) (by decide +kernel), by decide +kernel, by decide, by decide +kernel⟩
theorem iv_X7_mark : CV yX7_mark := ⟨List.mem_of_getElem? (i := 966) (by decide +kernel), List.mem_of_getElem? (i := 967) (by decide +kernel)⟩
theorem cd_X8_mark : CD yX8_mark cX8_mark 4 (some .int) 3 := ⟨List.mem_of_getElem? (i := 977) (by decide +kernel), List.mem_of_getElem? (i := 5) (by decide +kernel), by decide +kernel, by decide, by decide +kernel⟩
theorem iv_X8_mark : CV yX8_mark := ⟨List.mem_of_getElem? (i := 975) (by decide +kernel), List.mem_of_getElem? (i := 976) (by decide +kernel)⟩
theorem cd_X7_pour : CD yX7_pour cX7_pour 6 (some .int) 1 := ⟨List.mem_of_getElem? (i := 984) (by decide +kernel), List.mem_of_getElem? (i := 2) (by decide +kernel), by decide +kernel, by decide, by decide +kernel⟩
theorem iv_X7_pour : CV yX7_pour := ⟨List.mem_of_getElem? (i := 982) (by decide +kernel), List.mem_of_getElem? (i := 983) (by decide +kernel)⟩
theorem cd_X8_pour : CD yX8_pour cX8_pour 6 (some .int) 1 := ⟨List.mem_of_getElem? (i := 989) (by decide +kernel), List.mem_of_getElem? (i := 5) (by decide +kernel), by decide +kernel, by decide, by decide +kernel⟩
theorem iv_X8_pour : CV yX8_pour := ⟨List.mem_of_getElem? (i := 987) (by decide +kernel), List.mem_of_getElem? (i := 988) (by decide +kernel)⟩
theorem cd_X7_reads : CD yX7_reads cX7_reads 4 (some .int) 1 := ⟨List.mem_of_getElem? (i := 993) (by decide +kernel), List.mem_of_getElem? (i := 2) (by decide +kernel), by decide +kernel, by decide, by decide +kernel⟩
theorem iv_X7_reads : CV yX7_reads := ⟨List.mem_of_getElem? (i := 991) (by decide +kernel), List.mem_of_getElem? (i := 992) (by decide +kernel)⟩
theorem cd_X8_reads : CD yX8_reads cX8_reads 4 (some .int) 1 := ⟨List.mem_of_getElem? (i := 997) (by decide +kernel), List.mem_of_getElem? (i := 5) (by decide +kernel), by decide +kernel, by decide, by decide +kernel⟩
theorem iv_X8_reads : CV yX8_reads := ⟨List.mem_of_getElem? (i := 995) (by decide +kernel), List.mem_of_getElem? (i := 996) (by decide +kernel)⟩
theorem cd_X7_copy : CD yX7_copy cX7_copy 8 (some .int) 5 := ⟨List.mem_of_getElem? (i := 1001) (by decide +kernel), List.mem_of_getElem? (i := 2) (by decide +kernel), by decide +kernel, by decide, by decide +kernel⟩
theorem iv_X7_copy : CV yX7_copy := ⟨List.mem_of_getElem? (i := 999) (by decide +kernel), List.mem_of_getElem? (i := 1000) (by decide +kernel)⟩
theorem cd_X1_hasRow : CD yX1_hasRow cX1_hasRow 3 (some .boolean) 2 := ⟨List.mem_of_getElem? (i := 1006) (by decide +kernel), List.mem_of_getElem? (i := 34) (by decide +kernel), by decide +kernel, by decide, by decide +kernel⟩
theorem iv_X1_hasRow : CV yX1_hasRow := ⟨List.mem_of_getElem? (i := 1004) (by decide +kernel), List.mem_of_getElem? (i := 1005) (by decide +kernel)⟩
theorem cd_X8_copy : CD yX8_copy cX8_copy 7 (some .int) 5 := ⟨List.mem_of_getElem? (i := 1010) (by decide +kernel), List.mem_of_getElem? (i := 5) (by decide +kernel), by decide +kernel, by decide, by decide +kernel⟩
theorem iv_X8_copy : CV yX8_copy := ⟨List.mem_of_getElem? (i := 1008) (by decide +kernel), List.mem_of_getElem? (i := 1009) (by decide +kernel)⟩
theorem cd_X7_lay : CD yX7_lay cX7_lay 6 (some .int) 3 := ⟨List.mem_of_getElem? (i := 1014) (by decide +kernel), List.mem_of_getElem? (i := 2) (by decide +kernel), by decide +kernel, by decide, by decide +kernel⟩
theorem iv_X7_lay : CV yX7_lay := ⟨List.mem_of_getElem? (i := 1012) (by decide +kernel), List.mem_of_getElem? (i := 1013) (by decide +kernel)⟩
theorem cd_X7_isSlot : CD yX7_isSlot cX7_isSlot 1 (some .boolean) 1 := ⟨List.mem_of_getElem? (i := 1021) (by decide +kernel), List.mem_of_getElem? (i := 2) (by decide +kernel), by decide +kernel, by decide, by decide +kernel⟩
theorem st_X7_isSlot : CS yX7_isSlot := List.mem_of_getElem? (i := 1020) (by decide +kernel)
theorem cd_X1_become : CD yX1_become cX1_become 2 none 1 := ⟨List.mem_of_getElem? (i := 1026) (by decide +kernel), List.mem_of_getElem? (i := 34) (by decide +kernel), by decide +kernel, by decide, by decide +kernel⟩
theorem iv_X1_become : CV yX1_become := ⟨List.mem_of_getElem? (i := 1024) (by decide +kernel), List.mem_of_getElem? (i := 1025) (by decide +kernel)⟩
theorem cd_X8_lay : CD yX8_lay cX8_lay 7 (some .int) 3 := ⟨List.mem_of_getElem? (i := 1031) (by decide +kernel), List.mem_of_getElem? (i := 5) (by decide +kernel), by decide +kernel, by decide, by decide +kernel⟩
theorem iv_X8_lay : CV yX8_lay := ⟨List.mem_of_getElem? (i := 1029) (by decide +kernel), List.mem_of_getElem? (i := 1030) (by decide +kernel)⟩
theorem cd_X8_isSlot : CD yX8_isSlot cX8_isSlot 1 (some .boolean) 1 := ⟨List.mem_of_getElem? (i := 1034) (by decide +kernel), List.mem_of_getElem? (i := 5) (by decide +kernel), by decide +kernel, by decide, by decide +kernel⟩
theorem st_X8_isSlot : CS yX8_isSlot := List.mem_of_getElem? (i := 1033) (by decide +kernel)
theorem cd_X7_ask : CD yX7_ask cX7_ask 4 (some .int) 2 := ⟨List.mem_of_getElem? (i := 1038) (by decide +kernel), List.mem_of_getElem? (i := 2) (by decide +kernel), by decide +kernel, by decide, by decide +kernel⟩
theorem iv_X7_ask : CV yX7_ask := ⟨List.mem_of_getElem? (i := 1036) (by decide +kernel), List.mem_of_getElem? (i := 1037) (by decide +kernel)⟩
theorem cd_X8_ask : CD yX8_ask cX8_ask 3 (some .int) 2 := ⟨List.mem_of_getElem? (i := 1042) (by decide +kernel), List.mem_of_getElem? (i := 5) (by decide +kernel), by decide +kernel, by decide, by decide +kernel⟩
theorem iv_X8_ask : CV yX8_ask := ⟨List.mem_of_getElem? (i := 1040) (by decide +kernel), List.mem_of_getElem? (i := 1041) (by decide +kernel)⟩
theorem cd_X7_item : CD yX7_item cX7_item 4 (some .int) 2 := ⟨List.mem_of_getElem? (i := 1046) (by decide +kernel), List.mem_of_getElem? (i := 2) (by decide +kernel), by decide +kernel, by decide, by decide +kernel⟩
theorem iv_X7_item : CV yX7_item := ⟨List.mem_of_getElem? (i := 1044) (by decide +kernel), List.mem_of_getElem? (i := 1045) (by decide +kernel)⟩
theorem cd_X8_item : CD yX8_item cX8_item 4 (some .int) 2 := ⟨List.mem_of_getElem? (i := 1050) (by decide +kernel), List.mem_of_getElem? (i := 5) (by decide +kernel), by decide +kernel, by decide, by decide +kernel⟩
theorem iv_X8_item : CV yX8_item := ⟨List.mem_of_getElem? (i := 1048) (by decide +kernel), List.mem_of_getElem? (i := 1049) (by decide +kernel)⟩
theorem cd_X7_rest : CD yX7_rest cX7_rest 4 (some .int) 2 := ⟨List.mem_of_getElem? (i := 1054) (by decide +kernel), List.mem_of_getElem? (i := 2) (by decide +kernel), by decide +kernel, by decide, by decide +kernel⟩
theorem iv_X7_rest : CV yX7_rest := ⟨List.mem_of_getElem? (i := 1052) (by decide +kernel), List.mem_of_getElem? (i := 1053) (by decide +kernel)⟩
theorem cd_X8_rest : CD yX8_rest cX8_rest 3 (some .int) 2 := ⟨List.mem_of_getElem? (i := 1059) (by decide +kernel), List.mem_of_getElem? (i := 5) (by decide +kernel), by decide +kernel, by decide, by decide +kernel⟩
theorem iv_X8_rest : CV yX8_rest := ⟨List.mem_of_getElem? (i := 1057) (by decide +kernel), List.mem_of_getElem? (i := 1058) (by decide +kernel)⟩
theorem cd_X7_tell : CD yX7_tell cX7_tell 2 (some .int) 1 := ⟨List.mem_of_getElem? (i := 1064) (by decide +kernel), List.mem_of_getElem? (i := 2) (by decide +kernel), by decide +kernel, by decide, by decide +kernel⟩
theorem iv_X7_tell : CV yX7_tell := ⟨List.mem_of_getElem? (i := 1062) (by decide +kernel), List.mem_of_getElem? (i := 1063) (by decide +kernel)⟩
theorem cd_X8_tell : CD yX8_tell cX8_tell 2 (some .int) 1 := ⟨List.mem_of_getElem? (i := 1069) (by decide +kernel), List.mem_of_getElem? (i := 5) (by decide +kernel), by decide +kernel, by decide, by decide +kernel⟩
theorem iv_X8_tell : CV yX8_tell := ⟨List.mem_of_getElem? (i := 1067) (by decide +kernel), List.mem_of_getElem? (i := 1068) (by decide +kernel)⟩
theorem cd_X7_check : CD yX7_check cX7_check 6 (some .int) 1 := ⟨List.mem_of_getElem? (i := 1074) (by decide +kernel), List.mem_of_getElem? (i := 2) (by decide +kernel), by decide +kernel, by decide, by decide +kernel⟩
theorem iv_X7_check : CV yX7_check := ⟨List.mem_of_getElem? (i := 1072) (by decide +kernel), List.mem_of_getElem? (i := 1073) (by decide +kernel)⟩
theorem cd_X8_check : CD yX8_check cX8_check 5 (some .int) 1 := ⟨List.mem_of_getElem? (i := 1079) (by decide +kernel), List.mem_of_getElem? (i := 5) (by decide +kernel), by decide +kernel, by decide, by decide +kernel⟩
theorem iv_X8_check : CV yX8_check := ⟨List.mem_of_getElem? (i := 1077) (by decide +kernel), List.mem_of_getElem? (i := 1078) (by decide +kernel)⟩
theorem cd_X8_setAside : CD yX8_setAside cX8_setAside 4 none 2 := ⟨List.mem_of_getElem? (i := 1085) (by decide +kernel), List.mem_of_getElem? (i := 5) (by decide +kernel), by decide +kernel, by decide, by decide +kernel⟩
theorem iv_X8_setAside : CV yX8_setAside := ⟨List.mem_of_getElem? (i := 1083) (by decide +kernel), List.mem_of_getElem? (i := 1084) (by decide +kernel)⟩
theorem cd_X7_keep : CD yX7_keep cX7_keep 1 (some .int) 0 := ⟨List.mem_of_getElem? (i := 1089) (by decide +kernel), List.mem_of_getElem? (i := 2) (by decide +kernel), by decide +kernel, by decide, by decide +kernel⟩
theorem iv_X7_keep : CV yX7_keep := ⟨List.mem_of_getElem? (i := 1087) (by decide +kernel), List.mem_of_getElem? (i := 1088) (by decide +kernel)⟩
theorem cd_X8_keep : CD yX8_keep cX8_keep 1 (some .int) 0 := ⟨List.mem_of_getElem? (i := 1093) (by decide +kernel), List.mem_of_getElem? (i := 5) (by decide +kernel), by decide +kernel, by decide, by decide +kernel⟩
theorem iv_X8_keep : CV yX8_keep := ⟨List.mem_of_getElem? (i := 1091) (by decide +kernel), List.mem_of_getElem? (i := 1092) (by decide +kernel)⟩
theorem cd_X7_back : CD yX7_back cX7_back 1 (some .int) 0 := ⟨List.mem_of_getElem? (i := 1097) (by decide +kernel), List.mem_of_getElem? (i := 2) (by decide +kernel), by decide +kernel, by decide, by decide +kernel⟩
theorem iv_X7_back : CV yX7_back := ⟨List.mem_of_getElem? (i := 1095) (by decide +kernel), List.mem_of_getElem? (i := 1096) (by decide +kernel)⟩
theorem cd_X8_back : CD yX8_back cX8_back 1 (some .int) 0 := ⟨List.mem_of_getElem? (i := 1101) (by decide +kernel), List.mem_of_getElem? (i := 5) (by decide +kernel), by decide +kernel, by decide, by decide +kernel⟩
theorem iv_X8_back : CV yX8_back := ⟨List.mem_of_getElem? (i := 1099) (by decide +kernel), List.mem_of_getElem? (i := 1100) (by decide +kernel)⟩
theorem cd_X7_count : CD yX7_count cX7_count 2 (some .int) 1 := ⟨List.mem_of_getElem? (i := 1105) (by decide +kernel), List.mem_of_getElem? (i := 2) (by decide +kernel), by decide +kernel, by decide, by decide +kernel⟩
theorem iv_X7_count : CV yX7_count := ⟨List.mem_of_getElem? (i := 1103) (by decide +kernel), List.mem_of_getElem? (i := 1104) (by decide +kernel)⟩
theorem cd_X8_count : CD yX8_count cX8_count 2 (some .int) 1 := ⟨List.mem_of_getElem? (i := 1110) (by decide +kernel), List.mem_of_getElem? (i := 5) (by decide +kernel), by decide +kernel, by decide, by decide +kernel⟩
theorem iv_X8_count : CV yX8_count := ⟨List.mem_of_getElem? (i := 1108) (by decide +kernel), List.mem_of_getElem? (i := 1109) (by decide +kernel)⟩
