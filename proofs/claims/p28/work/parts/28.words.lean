/-! the tables' words that are used (printed by wip/gen/gen31.py) -/
theorem w_same : Cond.sameField "java/util/ArrayList" (TJx4a65c 0).1 (TJx4a65c 0).2.1 (TJx4a65c 0).2.2.1 ∈ xWds := xW1 (List.mem_of_getElem? (i := 61) (by decide +kernel)) (by decide +kernel)
theorem w_acn : Cond.native arraycopyName ∈ xWds := xW1 (List.mem_of_getElem? (i := 430) (by decide +kernel)) (by decide +kernel)
theorem w_acs : Cond.static arraycopyName ∈ xWds := xW1 (List.mem_of_getElem? (i := 429) (by decide +kernel)) (by decide +kernel)
theorem w_aci : Cond.initialized "java/lang/System" ∈ xWds := xW1 (List.mem_of_getElem? (i := 20) (by decide +kernel)) (by decide +kernel)
theorem w_mini : Cond.initialized "java/lang/Math" ∈ xWds := xW1 (List.mem_of_getElem? (i := 18) (by decide +kernel)) (by decide +kernel)
theorem w_mmax1 : Cond.static Lib.Math.max.name ∈ xWds := xW1 (List.mem_of_getElem? (i := 390) (by decide +kernel)) (by decide +kernel)
theorem w_mmax2 : Cond.code Lib.Math.max.name Lib.Math.max.code 2 (some .int) ∈ xWds := xW1 (List.mem_of_getElem? (i := 391) (by decide +kernel)) (by decide +kernel)
theorem w_mmin1 : Cond.static Lib.Math.min.name ∈ xWds := xW1 (List.mem_of_getElem? (i := 426) (by decide +kernel)) (by decide +kernel)
theorem w_mmin2 : Cond.code Lib.Math.min.name Lib.Math.min.code 2 (some .int) ∈ xWds := xW1 (List.mem_of_getElem? (i := 427) (by decide +kernel)) (by decide +kernel)
theorem w_obi : Cond.instanceMethod objectInit ∈ xWds := xW1 (List.mem_of_getElem? (i := 41) (by decide +kernel)) (by decide +kernel)
theorem w_obc : Cond.code objectInit ⟨#[0xb1]⟩ 1 none ∈ xWds := xW1 (List.mem_of_getElem? (i := 42) (by decide +kernel)) (by decide +kernel)
theorem w_gcs : Cond.selects "[Ljava/lang/Object;" ⟨"java/lang/Object", "getClass", "()Ljava/lang/Class;"⟩ ⟨"java/lang/Object", "getClass", "()Ljava/lang/Class;"⟩ ∈ xWds := xW1 (List.mem_of_getElem? (i := 1122) (by decide +kernel)) (by decide +kernel)
theorem w_gci : Cond.instanceMethod ⟨"java/lang/Object", "getClass", "()Ljava/lang/Class;"⟩ ∈ xWds := xW1 (List.mem_of_getElem? (i := 400) (by decide +kernel)) (by decide +kernel)
theorem w_gcn : Cond.native ⟨"java/lang/Object", "getClass", "()Ljava/lang/Class;"⟩ ∈ xWds := xW1 (List.mem_of_getElem? (i := 418) (by decide +kernel)) (by decide +kernel)
abbrev xoks : List Nat := [2, 3, 6, 7, 8, 9]
theorem xoks_ok : ∀ ci ∈ xoks, ∃ C T N, vwCl[ci]? = some (C, T, N) ∧ (C, "java/lang/Object") ∈ xCasts := by
  intro ci h
  simp only [xoks, List.mem_cons, List.not_mem_nil, or_false] at h
  rcases h with rfl | rfl | rfl | rfl | rfl | rfl <;> exact ⟨_, _, _, rfl, by decide +kernel⟩
theorem xthr0_a : ∀ w ∈ (vx_atS RX10 47 (xEx 0) ["java/lang/RuntimeException", "java/lang/Exception"]).filter goodWord, w ∈ lw_tbl := by decide +kernel
theorem xthr0_b : ∀ w ∈ (vx_atS RX10 47 (xEx 0) ["java/lang/RuntimeException", "java/lang/Exception"]).filter (fun w => !goodWord w), w ∈ xBad 0 := by decide +kernel
theorem xthr0_c : ∀ w ∈ Cond.classLink RX10 43 (xEx 0) :: Cond.initialized (xEx 0) :: vx_atS RX10 47 (xEx 0) ["java/lang/RuntimeException", "java/lang/Exception"], vx_ot w = true := by decide +kernel
theorem xthr1_a : ∀ w ∈ (vx_atS RX10 64 (xEx 1) ["java/lang/RuntimeException", "java/lang/Exception"]).filter goodWord, w ∈ lw_tbl := by decide +kernel
theorem xthr1_b : ∀ w ∈ (vx_atS RX10 64 (xEx 1) ["java/lang/RuntimeException", "java/lang/Exception"]).filter (fun w => !goodWord w), w ∈ xBad 1 := by decide +kernel
theorem xthr1_c : ∀ w ∈ Cond.classLink RX10 60 (xEx 1) :: Cond.initialized (xEx 1) :: vx_atS RX10 64 (xEx 1) ["java/lang/RuntimeException", "java/lang/Exception"], vx_ot w = true := by decide +kernel
theorem xthr2_a : ∀ w ∈ (vx_atS RX10 98 (xEx 2) ["java/lang/RuntimeException", "java/lang/Exception"]).filter goodWord, w ∈ lw_tbl := by decide +kernel
theorem xthr2_b : ∀ w ∈ (vx_atS RX10 98 (xEx 2) ["java/lang/RuntimeException", "java/lang/Exception"]).filter (fun w => !goodWord w), w ∈ xBad 2 := by decide +kernel
theorem xthr2_c : ∀ w ∈ Cond.classLink RX10 94 (xEx 2) :: Cond.initialized (xEx 2) :: vx_atS RX10 98 (xEx 2) ["java/lang/RuntimeException", "java/lang/Exception"], vx_ot w = true := by decide +kernel
theorem inX_J4 : ∀ w ∈ u_ws RJ4 TJ4 4, w ∈ xWds := by decide +kernel
theorem inX_Jx4a65c : ∀ w ∈ u_ws RJx4a65c TJx4a65c 3, w ∈ xWds := by decide +kernel
theorem inX_X0 : ∀ w ∈ u_ws RX0 TX0 6, w ∈ xWds := by decide +kernel
theorem inX_X1 : ∀ w ∈ u_ws RX1 TX1 4, w ∈ xWds := by decide +kernel
theorem inX_X10 : ∀ w ∈ u_ws RX10 TX10 7, w ∈ xWds := by decide +kernel
theorem inX_X2 : ∀ w ∈ u_ws RX2 TX2 4, w ∈ xWds := by decide +kernel
theorem inX_X4 : ∀ w ∈ u_ws RX4 TX4 1, w ∈ xWds := by decide +kernel
theorem inX_X5 : ∀ w ∈ u_ws RX5 TX5 2, w ∈ xWds := by decide +kernel
theorem inX_X7 : ∀ w ∈ u_ws RX7 TX7 2, w ∈ xWds := by decide +kernel
theorem inX_X8 : ∀ w ∈ u_ws RX8 TX8 3, w ∈ xWds := by decide +kernel
theorem inX_X9 : ∀ w ∈ u_ws RX9 TX9 2, w ∈ xWds := by decide +kernel
theorem w_prv_110 : Cond.selects "java/lang/StringBuilder" (xnm 110) (xnm 110) ∈ xWds := xWp (by decide +kernel) (by decide +kernel)
theorem w_prv_112 : Cond.selects "java/lang/StringBuilder" (xnm 112) (xnm 112) ∈ xWds := xWp (by decide +kernel) (by decide +kernel)
theorem w_prv_115 : Cond.selects "java/lang/StringBuilder" (xnm 115) (xnm 115) ∈ xWds := xWp (by decide +kernel) (by decide +kernel)
theorem w_prv_116 : Cond.selects "java/lang/StringBuilder" (xnm 116) (xnm 116) ∈ xWds := xWp (by decide +kernel) (by decide +kernel)
theorem w_1 : Cond.initialized "Stuccohand" ∈ xWds := xW1 (List.mem_of_getElem? (i := 1) (by decide +kernel)) (by decide +kernel)
theorem w_4 : Cond.initialized "java/util/ArrayList" ∈ xWds := xW1 (List.mem_of_getElem? (i := 4) (by decide +kernel)) (by decide +kernel)
theorem w_5 : Cond.initialized "Stuccohand$Log" ∈ xWds := xW1 (List.mem_of_getElem? (i := 5) (by decide +kernel)) (by decide +kernel)
theorem w_6 : Cond.initialized "Stuccohand$Fresco" ∈ xWds := xW1 (List.mem_of_getElem? (i := 6) (by decide +kernel)) (by decide +kernel)
theorem w_10 : Cond.initialized (xEx 2) ∈ xWds := xW1 (List.mem_of_getElem? (i := 10) (by decide +kernel)) (by decide +kernel)
theorem w_13 : Cond.initialized (xEx 0) ∈ xWds := xW1 (List.mem_of_getElem? (i := 13) (by decide +kernel)) (by decide +kernel)
theorem w_14 : Cond.initialized (xEx 1) ∈ xWds := xW1 (List.mem_of_getElem? (i := 14) (by decide +kernel)) (by decide +kernel)
theorem w_15 : Cond.initialized "Stuccohand$Wall" ∈ xWds := xW1 (List.mem_of_getElem? (i := 15) (by decide +kernel)) (by decide +kernel)
theorem w_16 : Cond.initialized "Stuccohand$Strip" ∈ xWds := xW1 (List.mem_of_getElem? (i := 16) (by decide +kernel)) (by decide +kernel)
theorem w_21 : Cond.initialized "Stuccohand$Entry" ∈ xWds := xW1 (List.mem_of_getElem? (i := 21) (by decide +kernel)) (by decide +kernel)
theorem w_22 : Cond.initialized "Stuccohand$Coat" ∈ xWds := xW1 (List.mem_of_getElem? (i := 22) (by decide +kernel)) (by decide +kernel)
theorem w_26 : Cond.initialized "java/lang/StringBuilder" ∈ xWds := xW1 (List.mem_of_getElem? (i := 26) (by decide +kernel)) (by decide +kernel)
theorem w_32 : Cond.initialized "Stuccohand$Profile" ∈ xWds := xW1 (List.mem_of_getElem? (i := 32) (by decide +kernel)) (by decide +kernel)
theorem w_33 : Cond.initialized "Stuccohand$Patch" ∈ xWds := xW1 (List.mem_of_getElem? (i := 33) (by decide +kernel)) (by decide +kernel)
theorem w_35 : Cond.classLink RL 10 "Stuccohand" ∈ xWds := xW1 (List.mem_of_getElem? (i := 35) (by decide +kernel)) (by decide +kernel)
theorem w_36 : Cond.instantiable "Stuccohand" 7 ∈ xWds := xW1 (List.mem_of_getElem? (i := 36) (by decide +kernel)) (by decide +kernel)
theorem w_37 : Cond.methodLink RL 142 (xnm 50) ∈ xWds := xW1 (List.mem_of_getElem? (i := 37) (by decide +kernel)) (by decide +kernel)
theorem w_40 : Cond.methodLink RX10 1 objectInit ∈ xWds := xW1 (List.mem_of_getElem? (i := 40) (by decide +kernel)) (by decide +kernel)
theorem w_43 : Cond.classLink RX10 7 "java/util/ArrayList" ∈ xWds := xW1 (List.mem_of_getElem? (i := 43) (by decide +kernel)) (by decide +kernel)
theorem w_44 : Cond.instantiable "java/util/ArrayList" 3 ∈ xWds := xW1 (List.mem_of_getElem? (i := 44) (by decide +kernel)) (by decide +kernel)
theorem w_45 : Cond.methodLink RX10 9 (xnm 130) ∈ xWds := xW1 (List.mem_of_getElem? (i := 45) (by decide +kernel)) (by decide +kernel)
theorem w_48 : Cond.methodLink RJx4a65c 1 (xnm 135) ∈ xWds := xW1 (List.mem_of_getElem? (i := 48) (by decide +kernel)) (by decide +kernel)
theorem w_51 : Cond.methodLink RJxc12de 1 (xnm 134) ∈ xWds := xW1 (List.mem_of_getElem? (i := 51) (by decide +kernel)) (by decide +kernel)
theorem w_54 : Cond.methodLink RJxa1e45 1 objectInit ∈ xWds := xW1 (List.mem_of_getElem? (i := 54) (by decide +kernel)) (by decide +kernel)
theorem w_55 : Cond.fieldLink RJx4a65c 39 "java/util/ArrayList" "DEFAULTCAPACITY_EMPTY_ELEMENTDATA" "[Ljava/lang/Object;" ∈ xWds := xW1 (List.mem_of_getElem? (i := 55) (by decide +kernel)) (by decide +kernel)
theorem w_57 : Cond.fieldLink RJx4a65c 9 "java/util/ArrayList" (TJx4a65c 1).2.1 (TJx4a65c 1).2.2.1 ∈ xWds := xW1 (List.mem_of_getElem? (i := 57) (by decide +kernel)) (by decide +kernel)
theorem w_58 : Cond.fieldLink RJx4a65c 48 "java/util/ArrayList" (TJx4a65c 2).2.1 (TJx4a65c 2).2.2.1 ∈ xWds := xW1 (List.mem_of_getElem? (i := 58) (by decide +kernel)) (by decide +kernel)
theorem w_59 : Cond.fieldLink RJxc12de 7 "java/util/AbstractList" (TJx4a65c 0).2.1 (TJx4a65c 0).2.2.1 ∈ xWds := xW1 (List.mem_of_getElem? (i := 59) (by decide +kernel)) (by decide +kernel)
theorem w_60 : Cond.fieldLink RJx4a65c 63 "java/util/ArrayList" (TJx4a65c 0).2.1 (TJx4a65c 0).2.2.1 ∈ xWds := xW1 (List.mem_of_getElem? (i := 60) (by decide +kernel)) (by decide +kernel)
theorem w_69 : Cond.classLink RX10 16 "Stuccohand$Log" ∈ xWds := xW1 (List.mem_of_getElem? (i := 69) (by decide +kernel)) (by decide +kernel)
theorem w_70 : Cond.instantiable "Stuccohand$Log" 1 ∈ xWds := xW1 (List.mem_of_getElem? (i := 70) (by decide +kernel)) (by decide +kernel)
theorem w_71 : Cond.methodLink RX10 18 (xnm 21) ∈ xWds := xW1 (List.mem_of_getElem? (i := 71) (by decide +kernel)) (by decide +kernel)
theorem w_74 : Cond.methodLink RX4 3 objectInit ∈ xWds := xW1 (List.mem_of_getElem? (i := 74) (by decide +kernel)) (by decide +kernel)
theorem w_75 : Cond.classLink RX4 9 "java/util/ArrayList" ∈ xWds := xW1 (List.mem_of_getElem? (i := 75) (by decide +kernel)) (by decide +kernel)
theorem w_76 : Cond.methodLink RX4 11 (xnm 130) ∈ xWds := xW1 (List.mem_of_getElem? (i := 76) (by decide +kernel)) (by decide +kernel)
theorem w_77 : Cond.fieldLink RX4 12 "Stuccohand$Log" (TX4 0).2.1 (TX4 0).2.2.1 ∈ xWds := xW1 (List.mem_of_getElem? (i := 77) (by decide +kernel)) (by decide +kernel)
theorem w_81 : Cond.classLink RX10 26 "Stuccohand$Fresco" ∈ xWds := xW1 (List.mem_of_getElem? (i := 81) (by decide +kernel)) (by decide +kernel)
theorem w_82 : Cond.instantiable "Stuccohand$Fresco" 4 ∈ xWds := xW1 (List.mem_of_getElem? (i := 82) (by decide +kernel)) (by decide +kernel)
theorem w_83 : Cond.methodLink RX10 28 (xnm 8) ∈ xWds := xW1 (List.mem_of_getElem? (i := 83) (by decide +kernel)) (by decide +kernel)
theorem w_86 : Cond.methodLink RX2 3 objectInit ∈ xWds := xW1 (List.mem_of_getElem? (i := 86) (by decide +kernel)) (by decide +kernel)
theorem w_87 : Cond.classLink RX2 9 "java/util/ArrayList" ∈ xWds := xW1 (List.mem_of_getElem? (i := 87) (by decide +kernel)) (by decide +kernel)
theorem w_88 : Cond.methodLink RX2 11 (xnm 130) ∈ xWds := xW1 (List.mem_of_getElem? (i := 88) (by decide +kernel)) (by decide +kernel)
theorem w_89 : Cond.fieldLink RX2 12 "Stuccohand$Fresco" (TX2 0).2.1 (TX2 0).2.2.1 ∈ xWds := xW1 (List.mem_of_getElem? (i := 89) (by decide +kernel)) (by decide +kernel)
theorem w_90 : Cond.fieldLink RX2 18 "Stuccohand$Fresco" (TX2 1).2.1 (TX2 1).2.2.1 ∈ xWds := xW1 (List.mem_of_getElem? (i := 90) (by decide +kernel)) (by decide +kernel)
theorem w_91 : Cond.fieldLink RX2 22 "Stuccohand$Fresco" (TX2 2).2.1 (TX2 2).2.2.1 ∈ xWds := xW1 (List.mem_of_getElem? (i := 91) (by decide +kernel)) (by decide +kernel)
theorem w_92 : Cond.fieldLink RX2 56 "Stuccohand$Fresco" (TX2 3).2.1 (TX2 3).2.2.1 ∈ xWds := xW1 (List.mem_of_getElem? (i := 92) (by decide +kernel)) (by decide +kernel)
theorem w_102 : Cond.arrayClass .int ∈ xWds := xW1 (List.mem_of_getElem? (i := 102) (by decide +kernel)) (by decide +kernel)
theorem w_103 : Cond.fieldLink RX10 10 "Stuccohand" (TX10 0).2.1 (TX10 0).2.2.1 ∈ xWds := xW1 (List.mem_of_getElem? (i := 103) (by decide +kernel)) (by decide +kernel)
theorem w_104 : Cond.fieldLink RX10 19 "Stuccohand" (TX10 1).2.1 (TX10 1).2.2.1 ∈ xWds := xW1 (List.mem_of_getElem? (i := 104) (by decide +kernel)) (by decide +kernel)
theorem w_105 : Cond.fieldLink RX10 23 "Stuccohand" (TX10 2).2.1 (TX10 2).2.2.1 ∈ xWds := xW1 (List.mem_of_getElem? (i := 105) (by decide +kernel)) (by decide +kernel)
theorem w_106 : Cond.fieldLink RX10 29 "Stuccohand" (TX10 3).2.1 (TX10 3).2.2.1 ∈ xWds := xW1 (List.mem_of_getElem? (i := 106) (by decide +kernel)) (by decide +kernel)
theorem w_107 : Cond.fieldLink RX10 33 "Stuccohand" (TX10 4).2.1 (TX10 4).2.2.1 ∈ xWds := xW1 (List.mem_of_getElem? (i := 107) (by decide +kernel)) (by decide +kernel)
theorem w_108 : Cond.fieldLink RX10 37 "Stuccohand" (TX10 5).2.1 (TX10 5).2.2.1 ∈ xWds := xW1 (List.mem_of_getElem? (i := 108) (by decide +kernel)) (by decide +kernel)
theorem w_109 : Cond.fieldLink RX10 40 "Stuccohand" (TX10 6).2.1 (TX10 6).2.2.1 ∈ xWds := xW1 (List.mem_of_getElem? (i := 109) (by decide +kernel)) (by decide +kernel)
theorem w_125 : Cond.methodLink RL 43 (xnm 63) ∈ xWds := xW1 (List.mem_of_getElem? (i := 125) (by decide +kernel)) (by decide +kernel)
theorem w_129 : Cond.methodLink RX10 169 (xnm 62) ∈ xWds := xW1 (List.mem_of_getElem? (i := 129) (by decide +kernel)) (by decide +kernel)
theorem w_133 : Cond.methodLink RX10 145 (xnm 59) ∈ xWds := xW1 (List.mem_of_getElem? (i := 133) (by decide +kernel)) (by decide +kernel)
theorem w_137 : Cond.methodLink RX10 78 (xnm 53) ∈ xWds := xW1 (List.mem_of_getElem? (i := 137) (by decide +kernel)) (by decide +kernel)
theorem w_141 : Cond.methodLink RX10 56 (xnm 133) ∈ xWds := xW1 (List.mem_of_getElem? (i := 141) (by decide +kernel)) (by decide +kernel)
theorem w_145 : Cond.classLink RX10 94 (xEx 2) ∈ xWds := xW1 (List.mem_of_getElem? (i := 145) (by decide +kernel)) (by decide +kernel)
theorem w_212 : Cond.arrayClass .byte ∈ xWds := xW1 (List.mem_of_getElem? (i := 212) (by decide +kernel)) (by decide +kernel)
theorem w_213 : Cond.methodLink RX10 161 (xnm 127) ∈ xWds := xW1 (List.mem_of_getElem? (i := 213) (by decide +kernel)) (by decide +kernel)
theorem w_217 : Cond.methodLink RJx4a65c 118 (xnm 96) ∈ xWds := xW1 (List.mem_of_getElem? (i := 217) (by decide +kernel)) (by decide +kernel)
theorem w_220 : Cond.methodLink RJ15 105 (xnm 99) ∈ xWds := xW1 (List.mem_of_getElem? (i := 220) (by decide +kernel)) (by decide +kernel)
theorem w_223 : Cond.methodLink RJx4a65c 123 (xnm 125) ∈ xWds := xW1 (List.mem_of_getElem? (i := 223) (by decide +kernel)) (by decide +kernel)
theorem w_227 : Cond.classLink RX10 65 "Stuccohand$Wall" ∈ xWds := xW1 (List.mem_of_getElem? (i := 227) (by decide +kernel)) (by decide +kernel)
theorem w_228 : Cond.methodLink RX10 87 (xnm 42) ∈ xWds := xW1 (List.mem_of_getElem? (i := 228) (by decide +kernel)) (by decide +kernel)
theorem w_232 : Cond.methodLink RX9 25 (xnm 133) ∈ xWds := xW1 (List.mem_of_getElem? (i := 232) (by decide +kernel)) (by decide +kernel)
theorem w_233 : Cond.methodLink RX9 29 (xnm 127) ∈ xWds := xW1 (List.mem_of_getElem? (i := 233) (by decide +kernel)) (by decide +kernel)
theorem w_234 : Cond.classLink RX9 16 "Stuccohand$Strip" ∈ xWds := xW1 (List.mem_of_getElem? (i := 234) (by decide +kernel)) (by decide +kernel)
theorem w_236 : Cond.methodLink RX10 362 (xnm 32) ∈ xWds := xW1 (List.mem_of_getElem? (i := 236) (by decide +kernel)) (by decide +kernel)
theorem w_240 : Cond.methodLink RX8 22 (xnm 133) ∈ xWds := xW1 (List.mem_of_getElem? (i := 240) (by decide +kernel)) (by decide +kernel)
theorem w_241 : Cond.methodLink RX8 26 (xnm 127) ∈ xWds := xW1 (List.mem_of_getElem? (i := 241) (by decide +kernel)) (by decide +kernel)
theorem w_242 : Cond.classLink RX8 30 "Stuccohand$Coat" ∈ xWds := xW1 (List.mem_of_getElem? (i := 242) (by decide +kernel)) (by decide +kernel)
theorem w_244 : Cond.methodLink RX10 190 (xnm 1) ∈ xWds := xW1 (List.mem_of_getElem? (i := 244) (by decide +kernel)) (by decide +kernel)
theorem w_248 : Cond.classLink RX10 43 (xEx 0) ∈ xWds := xW1 (List.mem_of_getElem? (i := 248) (by decide +kernel)) (by decide +kernel)
theorem w_264 : Cond.methodLink RL 77 (xnm 83) ∈ xWds := xW1 (List.mem_of_getElem? (i := 264) (by decide +kernel)) (by decide +kernel)
theorem w_269 : Cond.methodLink RX10 320 (xnm 17) ∈ xWds := xW1 (List.mem_of_getElem? (i := 269) (by decide +kernel)) (by decide +kernel)
theorem w_273 : Cond.methodLink RX2 25 (xnm 133) ∈ xWds := xW1 (List.mem_of_getElem? (i := 273) (by decide +kernel)) (by decide +kernel)
theorem w_274 : Cond.methodLink RX2 29 (xnm 127) ∈ xWds := xW1 (List.mem_of_getElem? (i := 274) (by decide +kernel)) (by decide +kernel)
theorem w_275 : Cond.classLink RX2 33 "Stuccohand$Patch" ∈ xWds := xW1 (List.mem_of_getElem? (i := 275) (by decide +kernel)) (by decide +kernel)
theorem w_279 : Cond.methodLink RX10 323 (xnm 18) ∈ xWds := xW1 (List.mem_of_getElem? (i := 279) (by decide +kernel)) (by decide +kernel)
theorem w_283 : Cond.methodLink RX10 326 (xnm 19) ∈ xWds := xW1 (List.mem_of_getElem? (i := 283) (by decide +kernel)) (by decide +kernel)
theorem w_287 : Cond.methodLink RL 80 (xnm 85) ∈ xWds := xW1 (List.mem_of_getElem? (i := 287) (by decide +kernel)) (by decide +kernel)
theorem w_291 : Cond.methodLink RX10 295 (xnm 81) ∈ xWds := xW1 (List.mem_of_getElem? (i := 291) (by decide +kernel)) (by decide +kernel)
theorem w_295 : Cond.methodLink RX10 378 (xnm 12) ∈ xWds := xW1 (List.mem_of_getElem? (i := 295) (by decide +kernel)) (by decide +kernel)
theorem w_300 : Cond.methodLink RX10 330 (xnm 84) ∈ xWds := xW1 (List.mem_of_getElem? (i := 300) (by decide +kernel)) (by decide +kernel)
theorem w_303 : Cond.constantLong RX10 383 (-1103823438082 : Int64) ∈ xWds := xW1 (List.mem_of_getElem? (i := 303) (by decide +kernel)) (by decide +kernel)
theorem w_304 : Cond.constantLong RX10 385 (-141289400074369 : Int64) ∈ xWds := xW1 (List.mem_of_getElem? (i := 304) (by decide +kernel)) (by decide +kernel)
theorem w_305 : Cond.constantLong RX10 282 (281474976710655 : Int64) ∈ xWds := xW1 (List.mem_of_getElem? (i := 305) (by decide +kernel)) (by decide +kernel)
theorem w_306 : Cond.methodLink RX10 334 (xnm 20) ∈ xWds := xW1 (List.mem_of_getElem? (i := 306) (by decide +kernel)) (by decide +kernel)
theorem w_310 : Cond.methodLink RL 150 (xnm 136) ∈ xWds := xW1 (List.mem_of_getElem? (i := 310) (by decide +kernel)) (by decide +kernel)
theorem w_313 : Cond.constant RL 7 (2067146769 : Int32) ∈ xWds := xW1 (List.mem_of_getElem? (i := 313) (by decide +kernel)) (by decide +kernel)
theorem w_314 : Cond.constant RL 8 (2147483647 : Int32) ∈ xWds := xW1 (List.mem_of_getElem? (i := 314) (by decide +kernel)) (by decide +kernel)
theorem w_315 : Cond.methodLink RL 117 (xnm 138) ∈ xWds := xW1 (List.mem_of_getElem? (i := 315) (by decide +kernel)) (by decide +kernel)
theorem w_318 : Cond.classLink RL 90 "java/lang/IndexOutOfBoundsException" ∈ xWds := xW1 (List.mem_of_getElem? (i := 318) (by decide +kernel)) (by decide +kernel)
theorem w_319 : Cond.classLink RL 93 "java/lang/IllegalArgumentException" ∈ xWds := xW1 (List.mem_of_getElem? (i := 319) (by decide +kernel)) (by decide +kernel)
theorem w_320 : Cond.classLink RL 96 "java/lang/IllegalStateException" ∈ xWds := xW1 (List.mem_of_getElem? (i := 320) (by decide +kernel)) (by decide +kernel)
theorem w_321 : Cond.methodLink RL 9 (xnm 51) ∈ xWds := xW1 (List.mem_of_getElem? (i := 321) (by decide +kernel)) (by decide +kernel)
theorem w_326 : Cond.fieldLink RX10 50 "Stuccohand" "GROUNDS" "[LStuccohand$Ground;" ∈ xWds := xW1 (List.mem_of_getElem? (i := 326) (by decide +kernel)) (by decide +kernel)
theorem w_329 : Cond.classLink RX10 60 (xEx 1) ∈ xWds := xW1 (List.mem_of_getElem? (i := 329) (by decide +kernel)) (by decide +kernel)
theorem w_345 : Cond.instantiable "Stuccohand$Wall" 2 ∈ xWds := xW1 (List.mem_of_getElem? (i := 345) (by decide +kernel)) (by decide +kernel)
theorem w_346 : Cond.methodLink RX10 67 (xnm 40) ∈ xWds := xW1 (List.mem_of_getElem? (i := 346) (by decide +kernel)) (by decide +kernel)
theorem w_349 : Cond.methodLink RX9 1 objectInit ∈ xWds := xW1 (List.mem_of_getElem? (i := 349) (by decide +kernel)) (by decide +kernel)
theorem w_350 : Cond.classLink RX9 7 "java/util/ArrayList" ∈ xWds := xW1 (List.mem_of_getElem? (i := 350) (by decide +kernel)) (by decide +kernel)
theorem w_351 : Cond.methodLink RX9 9 (xnm 130) ∈ xWds := xW1 (List.mem_of_getElem? (i := 351) (by decide +kernel)) (by decide +kernel)
theorem w_352 : Cond.instantiable "Stuccohand$Strip" 3 ∈ xWds := xW1 (List.mem_of_getElem? (i := 352) (by decide +kernel)) (by decide +kernel)
theorem w_353 : Cond.methodLink RX9 18 (xnm 30) ∈ xWds := xW1 (List.mem_of_getElem? (i := 353) (by decide +kernel)) (by decide +kernel)
theorem w_356 : Cond.methodLink RX8 3 objectInit ∈ xWds := xW1 (List.mem_of_getElem? (i := 356) (by decide +kernel)) (by decide +kernel)
theorem w_357 : Cond.classLink RX8 15 "java/util/ArrayList" ∈ xWds := xW1 (List.mem_of_getElem? (i := 357) (by decide +kernel)) (by decide +kernel)
theorem w_358 : Cond.methodLink RX8 17 (xnm 130) ∈ xWds := xW1 (List.mem_of_getElem? (i := 358) (by decide +kernel)) (by decide +kernel)
theorem w_359 : Cond.fieldLink RX8 9 "Stuccohand$Strip" (TX8 0).2.1 (TX8 0).2.2.1 ∈ xWds := xW1 (List.mem_of_getElem? (i := 359) (by decide +kernel)) (by decide +kernel)
theorem w_360 : Cond.fieldLink RX8 18 "Stuccohand$Strip" (TX8 1).2.1 (TX8 1).2.2.1 ∈ xWds := xW1 (List.mem_of_getElem? (i := 360) (by decide +kernel)) (by decide +kernel)
theorem w_361 : Cond.fieldLink RX10 99 "Stuccohand$Strip" (TX8 2).2.1 (TX8 2).2.2.1 ∈ xWds := xW1 (List.mem_of_getElem? (i := 361) (by decide +kernel)) (by decide +kernel)
theorem w_362 : Cond.fieldLink RX9 59 "Stuccohand$Strip" (TX8 2).2.1 (TX8 2).2.2.1 ∈ xWds := xW1 (List.mem_of_getElem? (i := 362) (by decide +kernel)) (by decide +kernel)
theorem w_370 : Cond.methodLink RX9 21 (xnm 124) ∈ xWds := xW1 (List.mem_of_getElem? (i := 370) (by decide +kernel)) (by decide +kernel)
theorem w_374 : Cond.methodLink RJx4a65c 131 (xnm 123) ∈ xWds := xW1 (List.mem_of_getElem? (i := 374) (by decide +kernel)) (by decide +kernel)
theorem w_378 : Cond.methodLink RJx4a65c 129 (xnm 129) ∈ xWds := xW1 (List.mem_of_getElem? (i := 378) (by decide +kernel)) (by decide +kernel)
theorem w_382 : Cond.methodLink RJx4a65c 69 (xnm 128) ∈ xWds := xW1 (List.mem_of_getElem? (i := 382) (by decide +kernel)) (by decide +kernel)
theorem w_386 : Cond.methodLink RJx4a65c 73 (xnm 122) ∈ xWds := xW1 (List.mem_of_getElem? (i := 386) (by decide +kernel)) (by decide +kernel)
theorem w_389 : Cond.methodLink RJ8 194 Lib.Math.max.name ∈ xWds := xW1 (List.mem_of_getElem? (i := 389) (by decide +kernel)) (by decide +kernel)
theorem w_392 : Cond.constant RJ8 200 (2147483639 : Int32) ∈ xWds := xW1 (List.mem_of_getElem? (i := 392) (by decide +kernel)) (by decide +kernel)
theorem w_396 : Cond.methodLink RJx4a65c 66 (xnm 119) ∈ xWds := xW1 (List.mem_of_getElem? (i := 396) (by decide +kernel)) (by decide +kernel)
theorem w_399 : Cond.methodLink RJ7 86 ⟨"java/lang/Object", "getClass", "()Ljava/lang/Class;"⟩ ∈ xWds := xW1 (List.mem_of_getElem? (i := 399) (by decide +kernel)) (by decide +kernel)
theorem w_419 : Cond.methodLink RJ7 300 (xnm 120) ∈ xWds := xW1 (List.mem_of_getElem? (i := 419) (by decide +kernel)) (by decide +kernel)
theorem w_422 : Cond.classLink RJ7 110 "[Ljava/lang/Object;" ∈ xWds := xW1 (List.mem_of_getElem? (i := 422) (by decide +kernel)) (by decide +kernel)
theorem w_424 : Cond.classLink RJ7 2 "java/lang/Object" ∈ xWds := xW1 (List.mem_of_getElem? (i := 424) (by decide +kernel)) (by decide +kernel)
theorem w_425 : Cond.methodLink RJ7 304 Lib.Math.min.name ∈ xWds := xW1 (List.mem_of_getElem? (i := 425) (by decide +kernel)) (by decide +kernel)
theorem w_428 : Cond.methodLink RJ7 150 arraycopyName ∈ xWds := xW1 (List.mem_of_getElem? (i := 428) (by decide +kernel)) (by decide +kernel)
theorem w_431 : Cond.methodLink RJx4a65c 79 Lib.Math.max.name ∈ xWds := xW1 (List.mem_of_getElem? (i := 431) (by decide +kernel)) (by decide +kernel)
theorem w_432 : Cond.classLink RJx4a65c 7 "java/lang/Object" ∈ xWds := xW1 (List.mem_of_getElem? (i := 432) (by decide +kernel)) (by decide +kernel)
theorem w_433 : Cond.fieldLink RX9 10 "Stuccohand$Wall" (TX9 0).2.1 (TX9 0).2.2.1 ∈ xWds := xW1 (List.mem_of_getElem? (i := 433) (by decide +kernel)) (by decide +kernel)
theorem w_434 : Cond.fieldLink RX10 84 "Stuccohand$Wall" (TX9 1).2.1 (TX9 1).2.2.1 ∈ xWds := xW1 (List.mem_of_getElem? (i := 434) (by decide +kernel)) (by decide +kernel)
theorem w_435 : Cond.fieldLink RX9 73 "Stuccohand$Wall" (TX9 1).2.1 (TX9 1).2.2.1 ∈ xWds := xW1 (List.mem_of_getElem? (i := 435) (by decide +kernel)) (by decide +kernel)
theorem w_441 : Cond.methodLink RX10 70 (xnm 124) ∈ xWds := xW1 (List.mem_of_getElem? (i := 441) (by decide +kernel)) (by decide +kernel)
theorem w_442 : Cond.methodLink RL 15 (xnm 137) ∈ xWds := xW1 (List.mem_of_getElem? (i := 442) (by decide +kernel)) (by decide +kernel)
theorem w_445 : Cond.methodLink RL 99 (xnm 52) ∈ xWds := xW1 (List.mem_of_getElem? (i := 445) (by decide +kernel)) (by decide +kernel)
theorem w_451 : Cond.methodLink RL 21 (xnm 54) ∈ xWds := xW1 (List.mem_of_getElem? (i := 451) (by decide +kernel)) (by decide +kernel)
theorem w_456 : Cond.methodLink RL 24 (xnm 55) ∈ xWds := xW1 (List.mem_of_getElem? (i := 456) (by decide +kernel)) (by decide +kernel)
theorem w_460 : Cond.methodLink RX10 91 (xnm 41) ∈ xWds := xW1 (List.mem_of_getElem? (i := 460) (by decide +kernel)) (by decide +kernel)
theorem w_465 : Cond.methodLink RL 28 (xnm 57) ∈ xWds := xW1 (List.mem_of_getElem? (i := 465) (by decide +kernel)) (by decide +kernel)
theorem w_469 : Cond.methodLink RX10 105 (xnm 56) ∈ xWds := xW1 (List.mem_of_getElem? (i := 469) (by decide +kernel)) (by decide +kernel)
theorem w_473 : Cond.fieldLink RX10 109 "Stuccohand" "PLASTERS" "[LStuccohand$Plaster;" ∈ xWds := xW1 (List.mem_of_getElem? (i := 473) (by decide +kernel)) (by decide +kernel)
theorem w_477 : Cond.methodLink RX10 117 (xnm 22) ∈ xWds := xW1 (List.mem_of_getElem? (i := 477) (by decide +kernel)) (by decide +kernel)
theorem w_481 : Cond.methodLink RX4 18 (xnm 133) ∈ xWds := xW1 (List.mem_of_getElem? (i := 481) (by decide +kernel)) (by decide +kernel)
theorem w_482 : Cond.methodLink RX10 121 (xnm 43) ∈ xWds := xW1 (List.mem_of_getElem? (i := 482) (by decide +kernel)) (by decide +kernel)
theorem w_486 : Cond.methodLink RX9 33 (xnm 42) ∈ xWds := xW1 (List.mem_of_getElem? (i := 486) (by decide +kernel)) (by decide +kernel)
theorem w_487 : Cond.methodLink RX9 37 (xnm 34) ∈ xWds := xW1 (List.mem_of_getElem? (i := 487) (by decide +kernel)) (by decide +kernel)
theorem w_491 : Cond.methodLink RX8 36 (xnm 33) ∈ xWds := xW1 (List.mem_of_getElem? (i := 491) (by decide +kernel)) (by decide +kernel)
theorem w_495 : Cond.methodLink RX8 32 (xnm 32) ∈ xWds := xW1 (List.mem_of_getElem? (i := 495) (by decide +kernel)) (by decide +kernel)
theorem w_496 : Cond.methodLink RX8 53 (xnm 1) ∈ xWds := xW1 (List.mem_of_getElem? (i := 496) (by decide +kernel)) (by decide +kernel)
theorem w_498 : Cond.methodLink RX10 127 (xnm 23) ∈ xWds := xW1 (List.mem_of_getElem? (i := 498) (by decide +kernel)) (by decide +kernel)
theorem w_502 : Cond.classLink RX4 22 "Stuccohand$Entry" ∈ xWds := xW1 (List.mem_of_getElem? (i := 502) (by decide +kernel)) (by decide +kernel)
theorem w_503 : Cond.instantiable "Stuccohand$Entry" 4 ∈ xWds := xW1 (List.mem_of_getElem? (i := 503) (by decide +kernel)) (by decide +kernel)
theorem w_504 : Cond.methodLink RX4 24 (xnm 6) ∈ xWds := xW1 (List.mem_of_getElem? (i := 504) (by decide +kernel)) (by decide +kernel)
theorem w_507 : Cond.methodLink RX1 1 objectInit ∈ xWds := xW1 (List.mem_of_getElem? (i := 507) (by decide +kernel)) (by decide +kernel)
theorem w_508 : Cond.fieldLink RX1 7 "Stuccohand$Entry" (TX1 0).2.1 (TX1 0).2.2.1 ∈ xWds := xW1 (List.mem_of_getElem? (i := 508) (by decide +kernel)) (by decide +kernel)
theorem w_509 : Cond.fieldLink RX1 13 "Stuccohand$Entry" (TX1 1).2.1 (TX1 1).2.2.1 ∈ xWds := xW1 (List.mem_of_getElem? (i := 509) (by decide +kernel)) (by decide +kernel)
theorem w_510 : Cond.fieldLink RX1 16 "Stuccohand$Entry" (TX1 2).2.1 (TX1 2).2.2.1 ∈ xWds := xW1 (List.mem_of_getElem? (i := 510) (by decide +kernel)) (by decide +kernel)
theorem w_511 : Cond.fieldLink RX1 19 "Stuccohand$Entry" (TX1 3).2.1 (TX1 3).2.2.1 ∈ xWds := xW1 (List.mem_of_getElem? (i := 511) (by decide +kernel)) (by decide +kernel)
theorem w_512 : Cond.fieldLink RX4 39 "Stuccohand$Entry" (TX1 3).2.1 (TX1 3).2.2.1 ∈ xWds := xW1 (List.mem_of_getElem? (i := 512) (by decide +kernel)) (by decide +kernel)
theorem w_522 : Cond.methodLink RX4 27 (xnm 124) ∈ xWds := xW1 (List.mem_of_getElem? (i := 522) (by decide +kernel)) (by decide +kernel)
theorem w_523 : Cond.methodLink RX10 131 (xnm 45) ∈ xWds := xW1 (List.mem_of_getElem? (i := 523) (by decide +kernel)) (by decide +kernel)
theorem w_527 : Cond.methodLink RX9 41 (xnm 36) ∈ xWds := xW1 (List.mem_of_getElem? (i := 527) (by decide +kernel)) (by decide +kernel)
theorem w_531 : Cond.instantiable "Stuccohand$Coat" 6 ∈ xWds := xW1 (List.mem_of_getElem? (i := 531) (by decide +kernel)) (by decide +kernel)
theorem w_532 : Cond.methodLink RX8 57 (xnm 0) ∈ xWds := xW1 (List.mem_of_getElem? (i := 532) (by decide +kernel)) (by decide +kernel)
theorem w_535 : Cond.methodLink RX0 3 objectInit ∈ xWds := xW1 (List.mem_of_getElem? (i := 535) (by decide +kernel)) (by decide +kernel)
theorem w_536 : Cond.fieldLink RX0 9 "Stuccohand$Coat" (TX0 0).2.1 (TX0 0).2.2.1 ∈ xWds := xW1 (List.mem_of_getElem? (i := 536) (by decide +kernel)) (by decide +kernel)
theorem w_537 : Cond.fieldLink RX8 49 "Stuccohand$Coat" (TX0 0).2.1 (TX0 0).2.2.1 ∈ xWds := xW1 (List.mem_of_getElem? (i := 537) (by decide +kernel)) (by decide +kernel)
theorem w_538 : Cond.fieldLink RX10 173 "Stuccohand$Coat" (TX0 0).2.1 (TX0 0).2.2.1 ∈ xWds := xW1 (List.mem_of_getElem? (i := 538) (by decide +kernel)) (by decide +kernel)
theorem w_539 : Cond.fieldLink RX0 15 "Stuccohand$Coat" (TX0 1).2.1 (TX0 1).2.2.1 ∈ xWds := xW1 (List.mem_of_getElem? (i := 539) (by decide +kernel)) (by decide +kernel)
theorem w_540 : Cond.fieldLink RX10 184 "Stuccohand$Coat" (TX0 1).2.1 (TX0 1).2.2.1 ∈ xWds := xW1 (List.mem_of_getElem? (i := 540) (by decide +kernel)) (by decide +kernel)
theorem w_541 : Cond.fieldLink RX0 19 "Stuccohand$Coat" (TX0 2).2.1 (TX0 2).2.2.1 ∈ xWds := xW1 (List.mem_of_getElem? (i := 541) (by decide +kernel)) (by decide +kernel)
theorem w_542 : Cond.fieldLink RX9 66 "Stuccohand$Coat" (TX0 2).2.1 (TX0 2).2.2.1 ∈ xWds := xW1 (List.mem_of_getElem? (i := 542) (by decide +kernel)) (by decide +kernel)
theorem w_543 : Cond.fieldLink RX8 87 "Stuccohand$Coat" (TX0 2).2.1 (TX0 2).2.2.1 ∈ xWds := xW1 (List.mem_of_getElem? (i := 543) (by decide +kernel)) (by decide +kernel)
theorem w_544 : Cond.fieldLink RX10 187 "Stuccohand$Coat" (TX0 2).2.1 (TX0 2).2.2.1 ∈ xWds := xW1 (List.mem_of_getElem? (i := 544) (by decide +kernel)) (by decide +kernel)
theorem w_545 : Cond.fieldLink RX0 40 "Stuccohand$Coat" (TX0 3).2.1 (TX0 3).2.2.1 ∈ xWds := xW1 (List.mem_of_getElem? (i := 545) (by decide +kernel)) (by decide +kernel)
theorem w_546 : Cond.fieldLink RX9 49 "Stuccohand$Coat" (TX0 3).2.1 (TX0 3).2.2.1 ∈ xWds := xW1 (List.mem_of_getElem? (i := 546) (by decide +kernel)) (by decide +kernel)
theorem w_547 : Cond.fieldLink RX8 67 "Stuccohand$Coat" (TX0 3).2.1 (TX0 3).2.2.1 ∈ xWds := xW1 (List.mem_of_getElem? (i := 547) (by decide +kernel)) (by decide +kernel)
theorem w_548 : Cond.fieldLink RX10 193 "Stuccohand$Coat" (TX0 3).2.1 (TX0 3).2.2.1 ∈ xWds := xW1 (List.mem_of_getElem? (i := 548) (by decide +kernel)) (by decide +kernel)
theorem w_549 : Cond.fieldLink RX8 78 "Stuccohand$Coat" (TX0 4).2.1 (TX0 4).2.2.1 ∈ xWds := xW1 (List.mem_of_getElem? (i := 549) (by decide +kernel)) (by decide +kernel)
theorem w_550 : Cond.fieldLink RX9 70 "Stuccohand$Coat" (TX0 4).2.1 (TX0 4).2.2.1 ∈ xWds := xW1 (List.mem_of_getElem? (i := 550) (by decide +kernel)) (by decide +kernel)
theorem w_551 : Cond.fieldLink RX10 196 "Stuccohand$Coat" (TX0 4).2.1 (TX0 4).2.2.1 ∈ xWds := xW1 (List.mem_of_getElem? (i := 551) (by decide +kernel)) (by decide +kernel)
theorem w_552 : Cond.fieldLink RX0 22 "Stuccohand$Coat" (TX0 5).2.1 (TX0 5).2.2.1 ∈ xWds := xW1 (List.mem_of_getElem? (i := 552) (by decide +kernel)) (by decide +kernel)
theorem w_566 : Cond.methodLink RX8 60 (xnm 35) ∈ xWds := xW1 (List.mem_of_getElem? (i := 566) (by decide +kernel)) (by decide +kernel)
theorem w_570 : Cond.methodLink RX8 63 (xnm 2) ∈ xWds := xW1 (List.mem_of_getElem? (i := 570) (by decide +kernel)) (by decide +kernel)
theorem w_574 : Cond.methodLink RX8 71 (xnm 124) ∈ xWds := xW1 (List.mem_of_getElem? (i := 574) (by decide +kernel)) (by decide +kernel)
theorem w_575 : Cond.methodLink RX9 45 (xnm 33) ∈ xWds := xW1 (List.mem_of_getElem? (i := 575) (by decide +kernel)) (by decide +kernel)
theorem w_576 : Cond.methodLink RX9 55 (xnm 44) ∈ xWds := xW1 (List.mem_of_getElem? (i := 576) (by decide +kernel)) (by decide +kernel)
theorem w_580 : Cond.methodLink RX9 62 (xnm 38) ∈ xWds := xW1 (List.mem_of_getElem? (i := 580) (by decide +kernel)) (by decide +kernel)
theorem w_584 : Cond.methodLink RX8 84 (xnm 31) ∈ xWds := xW1 (List.mem_of_getElem? (i := 584) (by decide +kernel)) (by decide +kernel)
theorem w_588 : Cond.methodLink RL 32 (xnm 58) ∈ xWds := xW1 (List.mem_of_getElem? (i := 588) (by decide +kernel)) (by decide +kernel)
theorem w_592 : Cond.methodLink RX10 135 (xnm 46) ∈ xWds := xW1 (List.mem_of_getElem? (i := 592) (by decide +kernel)) (by decide +kernel)
theorem w_597 : Cond.methodLink RX10 141 (xnm 47) ∈ xWds := xW1 (List.mem_of_getElem? (i := 597) (by decide +kernel)) (by decide +kernel)
theorem w_601 : Cond.methodLink RL 36 (xnm 60) ∈ xWds := xW1 (List.mem_of_getElem? (i := 601) (by decide +kernel)) (by decide +kernel)
theorem w_605 : Cond.methodLink RX10 149 (xnm 31) ∈ xWds := xW1 (List.mem_of_getElem? (i := 605) (by decide +kernel)) (by decide +kernel)
theorem w_607 : Cond.methodLink RX10 154 (xnm 37) ∈ xWds := xW1 (List.mem_of_getElem? (i := 607) (by decide +kernel)) (by decide +kernel)
theorem w_611 : Cond.methodLink RX8 81 (xnm 132) ∈ xWds := xW1 (List.mem_of_getElem? (i := 611) (by decide +kernel)) (by decide +kernel)
theorem w_615 : Cond.methodLink RJx4a65c 144 (xnm 126) ∈ xWds := xW1 (List.mem_of_getElem? (i := 615) (by decide +kernel)) (by decide +kernel)
theorem w_619 : Cond.methodLink RJx4a65c 112 arraycopyName ∈ xWds := xW1 (List.mem_of_getElem? (i := 619) (by decide +kernel)) (by decide +kernel)
theorem w_620 : Cond.methodLink RL 39 (xnm 61) ∈ xWds := xW1 (List.mem_of_getElem? (i := 620) (by decide +kernel)) (by decide +kernel)
theorem w_626 : Cond.methodLink RX10 165 (xnm 48) ∈ xWds := xW1 (List.mem_of_getElem? (i := 626) (by decide +kernel)) (by decide +kernel)
theorem w_630 : Cond.methodLink RX9 76 Lib.Math.max.name ∈ xWds := xW1 (List.mem_of_getElem? (i := 630) (by decide +kernel)) (by decide +kernel)
theorem w_631 : Cond.methodLink RX9 82 (xnm 3) ∈ xWds := xW1 (List.mem_of_getElem? (i := 631) (by decide +kernel)) (by decide +kernel)
theorem w_635 : Cond.methodLink RX0 33 (xnm 1) ∈ xWds := xW1 (List.mem_of_getElem? (i := 635) (by decide +kernel)) (by decide +kernel)
theorem w_636 : Cond.fieldLink RX0 37 "Stuccohand$Plaster" "CEMENT" "LStuccohand$Plaster;" ∈ xWds := xW1 (List.mem_of_getElem? (i := 636) (by decide +kernel)) (by decide +kernel)
theorem w_638 : Cond.methodLink RL 47 (xnm 64) ∈ xWds := xW1 (List.mem_of_getElem? (i := 638) (by decide +kernel)) (by decide +kernel)
theorem w_642 : Cond.methodLink RX10 201 (xnm 24) ∈ xWds := xW1 (List.mem_of_getElem? (i := 642) (by decide +kernel)) (by decide +kernel)
theorem w_646 : Cond.methodLink RX4 31 (xnm 127) ∈ xWds := xW1 (List.mem_of_getElem? (i := 646) (by decide +kernel)) (by decide +kernel)
theorem w_647 : Cond.methodLink RX4 35 (xnm 7) ∈ xWds := xW1 (List.mem_of_getElem? (i := 647) (by decide +kernel)) (by decide +kernel)
theorem w_651 : Cond.methodLink RL 50 (xnm 65) ∈ xWds := xW1 (List.mem_of_getElem? (i := 651) (by decide +kernel)) (by decide +kernel)
theorem w_656 : Cond.methodLink RX10 205 (xnm 5) ∈ xWds := xW1 (List.mem_of_getElem? (i := 656) (by decide +kernel)) (by decide +kernel)
theorem w_660 : Cond.classLink RX0 50 "java/lang/StringBuilder" ∈ xWds := xW1 (List.mem_of_getElem? (i := 660) (by decide +kernel)) (by decide +kernel)
theorem w_661 : Cond.instantiable "java/lang/StringBuilder" 4 ∈ xWds := xW1 (List.mem_of_getElem? (i := 661) (by decide +kernel)) (by decide +kernel)
theorem w_662 : Cond.methodLink RX0 52 (xnm 104) ∈ xWds := xW1 (List.mem_of_getElem? (i := 662) (by decide +kernel)) (by decide +kernel)
theorem w_665 : Cond.methodLink RJ4 1 (xnm 111) ∈ xWds := xW1 (List.mem_of_getElem? (i := 665) (by decide +kernel)) (by decide +kernel)
theorem w_668 : Cond.methodLink RJ5 3 objectInit ∈ xWds := xW1 (List.mem_of_getElem? (i := 668) (by decide +kernel)) (by decide +kernel)
theorem w_669 : Cond.fieldLink RJ5 18 "java/lang/String" "COMPACT_STRINGS" "Z" ∈ xWds := xW1 (List.mem_of_getElem? (i := 669) (by decide +kernel)) (by decide +kernel)
theorem w_678 : Cond.fieldLink RJ5 15 "java/lang/AbstractStringBuilder" (TJ4 0).2.1 (TJ4 0).2.2.1 ∈ xWds := xW1 (List.mem_of_getElem? (i := 678) (by decide +kernel)) (by decide +kernel)
theorem w_679 : Cond.fieldLink RJ5 22 "java/lang/AbstractStringBuilder" (TJ4 1).2.1 (TJ4 1).2.2.1 ∈ xWds := xW1 (List.mem_of_getElem? (i := 679) (by decide +kernel)) (by decide +kernel)
theorem w_680 : Cond.fieldLink RJ5 79 "java/lang/AbstractStringBuilder" (TJ4 3).2.1 (TJ4 3).2.2.1 ∈ xWds := xW1 (List.mem_of_getElem? (i := 680) (by decide +kernel)) (by decide +kernel)
theorem w_689 : Cond.superclass RJ4 (xnm 108).cls ∈ xWds := xW1 (List.mem_of_getElem? (i := 689) (by decide +kernel)) (by decide +kernel)
theorem w_690 : Cond.methodLink RX0 57 (xnm 100) ∈ xWds := xW1 (List.mem_of_getElem? (i := 690) (by decide +kernel)) (by decide +kernel)
theorem w_694 : Cond.methodLink RJ4 29 (xnm 108) ∈ xWds := xW1 (List.mem_of_getElem? (i := 694) (by decide +kernel)) (by decide +kernel)
theorem w_701 : Cond.methodLink RJ5 100 (xnm 110) ∈ xWds := xW1 (List.mem_of_getElem? (i := 701) (by decide +kernel)) (by decide +kernel)
theorem w_705 : Cond.methodLink RJ5 104 (xnm 115) ∈ xWds := xW1 (List.mem_of_getElem? (i := 705) (by decide +kernel)) (by decide +kernel)
theorem w_709 : Cond.methodLink RJ5 114 (xnm 122) ∈ xWds := xW1 (List.mem_of_getElem? (i := 709) (by decide +kernel)) (by decide +kernel)
theorem w_710 : Cond.constant RJ5 39 (2147483647 : Int32) ∈ xWds := xW1 (List.mem_of_getElem? (i := 710) (by decide +kernel)) (by decide +kernel)
theorem w_711 : Cond.methodLink RJ5 108 (xnm 121) ∈ xWds := xW1 (List.mem_of_getElem? (i := 711) (by decide +kernel)) (by decide +kernel)
theorem w_720 : Cond.classLink RJ7 311 "[B" ∈ xWds := xW1 (List.mem_of_getElem? (i := 720) (by decide +kernel)) (by decide +kernel)
theorem w_721 : Cond.methodLink RJ5 83 (xnm 113) ∈ xWds := xW1 (List.mem_of_getElem? (i := 721) (by decide +kernel)) (by decide +kernel)
theorem w_723 : Cond.sameMethod (xnm 113).cls (xnm 113).cls (xnm 113).name (xnm 113).desc ∈ xWds := xW1 (List.mem_of_getElem? (i := 723) (by decide +kernel)) (by decide +kernel)
theorem w_724 : Cond.selects "java/lang/StringBuilder" (xnm 113) (xnm 113) ∈ xWds := xW1 (List.mem_of_getElem? (i := 724) (by decide +kernel)) (by decide +kernel)
theorem w_738 : Cond.fieldLink RJ0 1053 "jdk/internal/util/Preconditions" "SIOOBE_FORMATTER" "Ljava/util/function/BiFunction;" ∈ xWds := xW1 (List.mem_of_getElem? (i := 738) (by decide +kernel)) (by decide +kernel)
theorem w_752 : Cond.methodLink RJ5 32 (xnm 94) ∈ xWds := xW1 (List.mem_of_getElem? (i := 752) (by decide +kernel)) (by decide +kernel)
theorem w_756 : Cond.methodLink RJ0 335 (xnm 92) ∈ xWds := xW1 (List.mem_of_getElem? (i := 756) (by decide +kernel)) (by decide +kernel)
theorem w_760 : Cond.fieldLink RJ0 38 "java/lang/String" "COMPACT_STRINGS" "Z" ∈ xWds := xW1 (List.mem_of_getElem? (i := 760) (by decide +kernel)) (by decide +kernel)
theorem w_761 : Cond.methodLink RJ5 208 (xnm 116) ∈ xWds := xW1 (List.mem_of_getElem? (i := 761) (by decide +kernel)) (by decide +kernel)
theorem w_765 : Cond.methodLink RJ5 397 (xnm 112) ∈ xWds := xW1 (List.mem_of_getElem? (i := 765) (by decide +kernel)) (by decide +kernel)
theorem w_769 : Cond.methodLink RJ5 40 (xnm 92) ∈ xWds := xW1 (List.mem_of_getElem? (i := 769) (by decide +kernel)) (by decide +kernel)
theorem w_789 : Cond.methodLink RJ5 399 (xnm 93) ∈ xWds := xW1 (List.mem_of_getElem? (i := 789) (by decide +kernel)) (by decide +kernel)
theorem w_793 : Cond.methodLink RJ0 212 arraycopyName ∈ xWds := xW1 (List.mem_of_getElem? (i := 793) (by decide +kernel)) (by decide +kernel)
theorem w_795 : Cond.methodLink RX0 61 (xnm 102) ∈ xWds := xW1 (List.mem_of_getElem? (i := 795) (by decide +kernel)) (by decide +kernel)
theorem w_799 : Cond.methodLink RJ4 50 (xnm 106) ∈ xWds := xW1 (List.mem_of_getElem? (i := 799) (by decide +kernel)) (by decide +kernel)
theorem w_802 : Cond.methodLink RJ5 191 (xnm 97) ∈ xWds := xW1 (List.mem_of_getElem? (i := 802) (by decide +kernel)) (by decide +kernel)
theorem w_811 : Cond.methodLink RJ2 414 (xnm 91) ∈ xWds := xW1 (List.mem_of_getElem? (i := 811) (by decide +kernel)) (by decide +kernel)
theorem w_814 : Cond.methodLink RJ0 1059 (xnm 99) ∈ xWds := xW1 (List.mem_of_getElem? (i := 814) (by decide +kernel)) (by decide +kernel)
theorem w_815 : Cond.methodLink RX0 64 (xnm 101) ∈ xWds := xW1 (List.mem_of_getElem? (i := 815) (by decide +kernel)) (by decide +kernel)
theorem w_819 : Cond.methodLink RJ4 53 (xnm 107) ∈ xWds := xW1 (List.mem_of_getElem? (i := 819) (by decide +kernel)) (by decide +kernel)
theorem w_822 : Cond.methodLink RJ5 245 (xnm 118) ∈ xWds := xW1 (List.mem_of_getElem? (i := 822) (by decide +kernel)) (by decide +kernel)
theorem w_825 : Cond.methodLink RJ5 248 (xnm 117) ∈ xWds := xW1 (List.mem_of_getElem? (i := 825) (by decide +kernel)) (by decide +kernel)
theorem w_828 : Cond.fieldLink RJ6 83 "java/lang/Integer" "DigitOnes" "[B" ∈ xWds := xW1 (List.mem_of_getElem? (i := 828) (by decide +kernel)) (by decide +kernel)
theorem w_830 : Cond.fieldLink RJ6 87 "java/lang/Integer" "DigitTens" "[B" ∈ xWds := xW1 (List.mem_of_getElem? (i := 830) (by decide +kernel)) (by decide +kernel)
theorem w_843 : Cond.methodLink RX10 209 (xnm 105) ∈ xWds := xW1 (List.mem_of_getElem? (i := 843) (by decide +kernel)) (by decide +kernel)
theorem w_847 : Cond.methodLink RJ4 343 (xnm 114) ∈ xWds := xW1 (List.mem_of_getElem? (i := 847) (by decide +kernel)) (by decide +kernel)
theorem w_850 : Cond.methodLink RX10 214 (xnm 103) ∈ xWds := xW1 (List.mem_of_getElem? (i := 850) (by decide +kernel)) (by decide +kernel)
theorem w_854 : Cond.methodLink RJ4 329 (xnm 109) ∈ xWds := xW1 (List.mem_of_getElem? (i := 854) (by decide +kernel)) (by decide +kernel)
theorem w_857 : Cond.methodLink RJ5 138 Lib.Math.min.name ∈ xWds := xW1 (List.mem_of_getElem? (i := 857) (by decide +kernel)) (by decide +kernel)
theorem w_858 : Cond.methodLink RJ5 144 (xnm 91) ∈ xWds := xW1 (List.mem_of_getElem? (i := 858) (by decide +kernel)) (by decide +kernel)
theorem w_862 : Cond.methodLink RL 54 (xnm 67) ∈ xWds := xW1 (List.mem_of_getElem? (i := 862) (by decide +kernel)) (by decide +kernel)
theorem w_866 : Cond.methodLink RX10 218 (xnm 66) ∈ xWds := xW1 (List.mem_of_getElem? (i := 866) (by decide +kernel)) (by decide +kernel)
theorem w_871 : Cond.classLink RX10 224 "Stuccohand$Profile" ∈ xWds := xW1 (List.mem_of_getElem? (i := 871) (by decide +kernel)) (by decide +kernel)
theorem w_872 : Cond.instantiable "Stuccohand$Profile" 2 ∈ xWds := xW1 (List.mem_of_getElem? (i := 872) (by decide +kernel)) (by decide +kernel)
theorem w_873 : Cond.methodLink RX10 226 (xnm 25) ∈ xWds := xW1 (List.mem_of_getElem? (i := 873) (by decide +kernel)) (by decide +kernel)
theorem w_876 : Cond.methodLink RX7 3 objectInit ∈ xWds := xW1 (List.mem_of_getElem? (i := 876) (by decide +kernel)) (by decide +kernel)
theorem w_877 : Cond.fieldLink RX7 9 "Stuccohand$Profile" (TX7 0).2.1 (TX7 0).2.2.1 ∈ xWds := xW1 (List.mem_of_getElem? (i := 877) (by decide +kernel)) (by decide +kernel)
theorem w_878 : Cond.fieldLink RX7 15 "Stuccohand$Profile" (TX7 1).2.1 (TX7 1).2.2.1 ∈ xWds := xW1 (List.mem_of_getElem? (i := 878) (by decide +kernel)) (by decide +kernel)
theorem w_884 : Cond.methodLink RL 57 (xnm 69) ∈ xWds := xW1 (List.mem_of_getElem? (i := 884) (by decide +kernel)) (by decide +kernel)
theorem w_888 : Cond.methodLink RX10 228 (xnm 68) ∈ xWds := xW1 (List.mem_of_getElem? (i := 888) (by decide +kernel)) (by decide +kernel)
theorem w_893 : Cond.methodLink RX10 232 (xnm 27) ∈ xWds := xW1 (List.mem_of_getElem? (i := 893) (by decide +kernel)) (by decide +kernel)
theorem w_898 : Cond.methodLink RX10 235 (xnm 28) ∈ xWds := xW1 (List.mem_of_getElem? (i := 898) (by decide +kernel)) (by decide +kernel)
theorem w_902 : Cond.methodLink RX10 238 (xnm 26) ∈ xWds := xW1 (List.mem_of_getElem? (i := 902) (by decide +kernel)) (by decide +kernel)
theorem w_906 : Cond.methodLink RL 60 (xnm 71) ∈ xWds := xW1 (List.mem_of_getElem? (i := 906) (by decide +kernel)) (by decide +kernel)
theorem w_910 : Cond.methodLink RX10 241 Lib.Math.max.name ∈ xWds := xW1 (List.mem_of_getElem? (i := 910) (by decide +kernel)) (by decide +kernel)
theorem w_911 : Cond.constantFloat RX10 246 (1056964608 : UInt32) ∈ xWds := xW1 (List.mem_of_getElem? (i := 911) (by decide +kernel)) (by decide +kernel)
theorem w_912 : Cond.constantFloat RX10 247 (3212836864 : UInt32) ∈ xWds := xW1 (List.mem_of_getElem? (i := 912) (by decide +kernel)) (by decide +kernel)
theorem w_913 : Cond.methodLink RX10 248 (xnm 29) ∈ xWds := xW1 (List.mem_of_getElem? (i := 913) (by decide +kernel)) (by decide +kernel)
theorem w_917 : Cond.methodLink RX7 19 Lib.Math.min.name ∈ xWds := xW1 (List.mem_of_getElem? (i := 917) (by decide +kernel)) (by decide +kernel)
theorem w_918 : Cond.methodLink RX10 252 (xnm 70) ∈ xWds := xW1 (List.mem_of_getElem? (i := 918) (by decide +kernel)) (by decide +kernel)
theorem w_921 : Cond.constantFloat RL 64 (1166016512 : UInt32) ∈ xWds := xW1 (List.mem_of_getElem? (i := 921) (by decide +kernel)) (by decide +kernel)
theorem w_922 : Cond.methodLink RL 65 (xnm 74) ∈ xWds := xW1 (List.mem_of_getElem? (i := 922) (by decide +kernel)) (by decide +kernel)
theorem w_926 : Cond.methodLink RX10 256 (xnm 72) ∈ xWds := xW1 (List.mem_of_getElem? (i := 926) (by decide +kernel)) (by decide +kernel)
theorem w_929 : Cond.constant RX10 263 (100000 : Int32) ∈ xWds := xW1 (List.mem_of_getElem? (i := 929) (by decide +kernel)) (by decide +kernel)
theorem w_932 : Cond.methodLink RX10 260 (xnm 73) ∈ xWds := xW1 (List.mem_of_getElem? (i := 932) (by decide +kernel)) (by decide +kernel)
theorem w_935 : Cond.methodLink RL 68 (xnm 75) ∈ xWds := xW1 (List.mem_of_getElem? (i := 935) (by decide +kernel)) (by decide +kernel)
theorem w_939 : Cond.methodLink RL 71 (xnm 77) ∈ xWds := xW1 (List.mem_of_getElem? (i := 939) (by decide +kernel)) (by decide +kernel)
theorem w_945 : Cond.methodLink RX10 270 (xnm 76) ∈ xWds := xW1 (List.mem_of_getElem? (i := 945) (by decide +kernel)) (by decide +kernel)
theorem w_948 : Cond.methodLink RL 74 (xnm 79) ∈ xWds := xW1 (List.mem_of_getElem? (i := 948) (by decide +kernel)) (by decide +kernel)
theorem w_952 : Cond.methodLink RX10 273 (xnm 78) ∈ xWds := xW1 (List.mem_of_getElem? (i := 952) (by decide +kernel)) (by decide +kernel)
theorem w_956 : Cond.methodLink RX10 276 (xnm 9) ∈ xWds := xW1 (List.mem_of_getElem? (i := 956) (by decide +kernel)) (by decide +kernel)
theorem w_960 : Cond.methodLink RX10 279 (xnm 10) ∈ xWds := xW1 (List.mem_of_getElem? (i := 960) (by decide +kernel)) (by decide +kernel)
theorem w_964 : Cond.methodLink RL 83 (xnm 90) ∈ xWds := xW1 (List.mem_of_getElem? (i := 964) (by decide +kernel)) (by decide +kernel)
theorem w_970 : Cond.methodLink RX10 355 (xnm 49) ∈ xWds := xW1 (List.mem_of_getElem? (i := 970) (by decide +kernel)) (by decide +kernel)
theorem w_974 : Cond.methodLink RX9 86 (xnm 39) ∈ xWds := xW1 (List.mem_of_getElem? (i := 974) (by decide +kernel)) (by decide +kernel)
theorem w_978 : Cond.methodLink RX8 90 (xnm 131) ∈ xWds := xW1 (List.mem_of_getElem? (i := 978) (by decide +kernel)) (by decide +kernel)
theorem w_982 : Cond.methodLink RX8 93 (xnm 4) ∈ xWds := xW1 (List.mem_of_getElem? (i := 982) (by decide +kernel)) (by decide +kernel)
theorem w_986 : Cond.methodLink RX0 44 Lib.Math.max.name ∈ xWds := xW1 (List.mem_of_getElem? (i := 986) (by decide +kernel)) (by decide +kernel)
theorem w_987 : Cond.methodLink RL 86 (xnm 87) ∈ xWds := xW1 (List.mem_of_getElem? (i := 987) (by decide +kernel)) (by decide +kernel)
theorem w_991 : Cond.methodLink RX10 338 (xnm 86) ∈ xWds := xW1 (List.mem_of_getElem? (i := 991) (by decide +kernel)) (by decide +kernel)
theorem w_996 : Cond.constant RL 92 (-1691000 : Int32) ∈ xWds := xW1 (List.mem_of_getElem? (i := 996) (by decide +kernel)) (by decide +kernel)
theorem w_997 : Cond.constant RL 95 (-1692000 : Int32) ∈ xWds := xW1 (List.mem_of_getElem? (i := 997) (by decide +kernel)) (by decide +kernel)
theorem w_998 : Cond.constant RL 98 (-1693000 : Int32) ∈ xWds := xW1 (List.mem_of_getElem? (i := 998) (by decide +kernel)) (by decide +kernel)
theorem w_999 : Cond.methodLink RL 127 (xnm 139) ∈ xWds := xW1 (List.mem_of_getElem? (i := 999) (by decide +kernel)) (by decide +kernel)
theorem w_1002 : Cond.methodLink RL 103 (xnm 80) ∈ xWds := xW1 (List.mem_of_getElem? (i := 1002) (by decide +kernel)) (by decide +kernel)
theorem w_1007 : Cond.methodLink RX10 286 (xnm 11) ∈ xWds := xW1 (List.mem_of_getElem? (i := 1007) (by decide +kernel)) (by decide +kernel)
theorem w_1012 : Cond.methodLink RX10 291 (xnm 16) ∈ xWds := xW1 (List.mem_of_getElem? (i := 1012) (by decide +kernel)) (by decide +kernel)
theorem w_1016 : Cond.constantLong RX2 39 (-1 : Int64) ∈ xWds := xW1 (List.mem_of_getElem? (i := 1016) (by decide +kernel)) (by decide +kernel)
theorem w_1017 : Cond.methodLink RX2 41 (xnm 14) ∈ xWds := xW1 (List.mem_of_getElem? (i := 1017) (by decide +kernel)) (by decide +kernel)
theorem w_1021 : Cond.instantiable "Stuccohand$Patch" 2 ∈ xWds := xW1 (List.mem_of_getElem? (i := 1021) (by decide +kernel)) (by decide +kernel)
theorem w_1022 : Cond.methodLink RX2 45 (xnm 15) ∈ xWds := xW1 (List.mem_of_getElem? (i := 1022) (by decide +kernel)) (by decide +kernel)
theorem w_1025 : Cond.methodLink RX5 1 objectInit ∈ xWds := xW1 (List.mem_of_getElem? (i := 1025) (by decide +kernel)) (by decide +kernel)
theorem w_1026 : Cond.fieldLink RX5 7 "Stuccohand$Patch" (TX5 0).2.1 (TX5 0).2.2.1 ∈ xWds := xW1 (List.mem_of_getElem? (i := 1026) (by decide +kernel)) (by decide +kernel)
theorem w_1027 : Cond.fieldLink RX10 299 "Stuccohand$Patch" (TX5 0).2.1 (TX5 0).2.2.1 ∈ xWds := xW1 (List.mem_of_getElem? (i := 1027) (by decide +kernel)) (by decide +kernel)
theorem w_1028 : Cond.fieldLink RX5 13 "Stuccohand$Patch" (TX5 1).2.1 (TX5 1).2.2.1 ∈ xWds := xW1 (List.mem_of_getElem? (i := 1028) (by decide +kernel)) (by decide +kernel)
theorem w_1029 : Cond.fieldLink RX2 35 "Stuccohand$Patch" (TX5 1).2.1 (TX5 1).2.2.1 ∈ xWds := xW1 (List.mem_of_getElem? (i := 1029) (by decide +kernel)) (by decide +kernel)
theorem w_1030 : Cond.fieldLink RX10 304 "Stuccohand$Patch" (TX5 1).2.1 (TX5 1).2.2.1 ∈ xWds := xW1 (List.mem_of_getElem? (i := 1030) (by decide +kernel)) (by decide +kernel)
theorem w_1036 : Cond.methodLink RX2 48 (xnm 124) ∈ xWds := xW1 (List.mem_of_getElem? (i := 1036) (by decide +kernel)) (by decide +kernel)
theorem w_1037 : Cond.methodLink RL 107 (xnm 82) ∈ xWds := xW1 (List.mem_of_getElem? (i := 1037) (by decide +kernel)) (by decide +kernel)
theorem w_1042 : Cond.methodLink RX10 308 (xnm 14) ∈ xWds := xW1 (List.mem_of_getElem? (i := 1042) (by decide +kernel)) (by decide +kernel)
theorem w_1043 : Cond.methodLink RX10 312 (xnm 95) ∈ xWds := xW1 (List.mem_of_getElem? (i := 1043) (by decide +kernel)) (by decide +kernel)
theorem w_1046 : Cond.constantLong RJ13 314 (6148914691236517205 : Int64) ∈ xWds := xW1 (List.mem_of_getElem? (i := 1046) (by decide +kernel)) (by decide +kernel)
theorem w_1047 : Cond.constantLong RJ13 316 (3689348814741910323 : Int64) ∈ xWds := xW1 (List.mem_of_getElem? (i := 1047) (by decide +kernel)) (by decide +kernel)
theorem w_1048 : Cond.constantLong RJ13 318 (1085102592571150095 : Int64) ∈ xWds := xW1 (List.mem_of_getElem? (i := 1048) (by decide +kernel)) (by decide +kernel)
theorem w_1049 : Cond.methodLink RL 143 (xnm 141) ∈ xWds := xW1 (List.mem_of_getElem? (i := 1049) (by decide +kernel)) (by decide +kernel)
theorem w_1052 : Cond.constant RL 121 (100001 : Int32) ∈ xWds := xW1 (List.mem_of_getElem? (i := 1052) (by decide +kernel)) (by decide +kernel)
theorem w_1053 : Cond.methodLink RL 122 (xnm 140) ∈ xWds := xW1 (List.mem_of_getElem? (i := 1053) (by decide +kernel)) (by decide +kernel)
theorem w_1056 : Cond.constantLong RL 111 (7 : Int64) ∈ xWds := xW1 (List.mem_of_getElem? (i := 1056) (by decide +kernel)) (by decide +kernel)
theorem w_1057 : Cond.constantLong RL 113 (31 : Int64) ∈ xWds := xW1 (List.mem_of_getElem? (i := 1057) (by decide +kernel)) (by decide +kernel)
theorem w_1058 : Cond.constantLong RL 115 (3 : Int64) ∈ xWds := xW1 (List.mem_of_getElem? (i := 1058) (by decide +kernel)) (by decide +kernel)
theorem w_1059 : Cond.constant RL 126 (65536 : Int32) ∈ xWds := xW1 (List.mem_of_getElem? (i := 1059) (by decide +kernel)) (by decide +kernel)
theorem w_1060 : Cond.constantLong RL 131 (5 : Int64) ∈ xWds := xW1 (List.mem_of_getElem? (i := 1060) (by decide +kernel)) (by decide +kernel)
theorem w_1061 : Cond.methodLink RL 147 (xnm 142) ∈ xWds := xW1 (List.mem_of_getElem? (i := 1061) (by decide +kernel)) (by decide +kernel)
theorem w_1064 : Cond.methodLink RL 171 (xnm 143) ∈ xWds := xW1 (List.mem_of_getElem? (i := 1064) (by decide +kernel)) (by decide +kernel)
theorem w_1067 : Cond.methodLink RL 158 (xnm 144) ∈ xWds := xW1 (List.mem_of_getElem? (i := 1067) (by decide +kernel)) (by decide +kernel)
theorem w_1070 : Cond.constant RL 133 (100000 : Int32) ∈ xWds := xW1 (List.mem_of_getElem? (i := 1070) (by decide +kernel)) (by decide +kernel)
theorem w_1071 : Cond.constant RL 134 (98001 : Int32) ∈ xWds := xW1 (List.mem_of_getElem? (i := 1071) (by decide +kernel)) (by decide +kernel)
theorem w_1072 : Cond.methodLink RL 168 (xnm 145) ∈ xWds := xW1 (List.mem_of_getElem? (i := 1072) (by decide +kernel)) (by decide +kernel)
theorem w_1075 : Cond.methodLink RL 164 (xnm 146) ∈ xWds := xW1 (List.mem_of_getElem? (i := 1075) (by decide +kernel)) (by decide +kernel)
theorem w_1078 : Cond.constantLong RL 135 (281474976710655 : Int64) ∈ xWds := xW1 (List.mem_of_getElem? (i := 1078) (by decide +kernel)) (by decide +kernel)
theorem w_1079 : Cond.methodLink RL 137 (xnm 89) ∈ xWds := xW1 (List.mem_of_getElem? (i := 1079) (by decide +kernel)) (by decide +kernel)
theorem w_1083 : Cond.methodLink RX10 345 (xnm 88) ∈ xWds := xW1 (List.mem_of_getElem? (i := 1083) (by decide +kernel)) (by decide +kernel)
theorem w_1086 : Cond.constantLong RX10 349 (-1 : Int64) ∈ xWds := xW1 (List.mem_of_getElem? (i := 1086) (by decide +kernel)) (by decide +kernel)
theorem w_1087 : Cond.constantLong RL 140 (-281474976710656 : Int64) ∈ xWds := xW1 (List.mem_of_getElem? (i := 1087) (by decide +kernel)) (by decide +kernel)
theorem w_1088 : Cond.constantLong RL 154 (196613 : Int64) ∈ xWds := xW1 (List.mem_of_getElem? (i := 1088) (by decide +kernel)) (by decide +kernel)
theorem w_1089 : Cond.constantLong RL 156 (-1 : Int64) ∈ xWds := xW1 (List.mem_of_getElem? (i := 1089) (by decide +kernel)) (by decide +kernel)
theorem w_1090 : Cond.constantLong RL 162 (65539 : Int64) ∈ xWds := xW1 (List.mem_of_getElem? (i := 1090) (by decide +kernel)) (by decide +kernel)
theorem w_1092 : Cond.sameMethod (xnm 108).cls (xnm 108).cls (xnm 108).name (xnm 108).desc ∈ xWds := xW1 (List.mem_of_getElem? (i := 1092) (by decide +kernel)) (by decide +kernel)
theorem w_1094 : Cond.sameMethod (xnm 110).cls (xnm 110).cls (xnm 110).name (xnm 110).desc ∈ xWds := xW1 (List.mem_of_getElem? (i := 1094) (by decide +kernel)) (by decide +kernel)
theorem w_1095 : Cond.sameMethod (xnm 115).cls (xnm 115).cls (xnm 115).name (xnm 115).desc ∈ xWds := xW1 (List.mem_of_getElem? (i := 1095) (by decide +kernel)) (by decide +kernel)
theorem w_1096 : Cond.sameMethod (xnm 116).cls (xnm 116).cls (xnm 116).name (xnm 116).desc ∈ xWds := xW1 (List.mem_of_getElem? (i := 1096) (by decide +kernel)) (by decide +kernel)
theorem w_1097 : Cond.sameMethod (xnm 112).cls (xnm 112).cls (xnm 112).name (xnm 112).desc ∈ xWds := xW1 (List.mem_of_getElem? (i := 1097) (by decide +kernel)) (by decide +kernel)
theorem w_1099 : Cond.sameMethod (xnm 106).cls (xnm 106).cls (xnm 106).name (xnm 106).desc ∈ xWds := xW1 (List.mem_of_getElem? (i := 1099) (by decide +kernel)) (by decide +kernel)
theorem w_1100 : Cond.sameMethod (xnm 107).cls (xnm 107).cls (xnm 107).name (xnm 107).desc ∈ xWds := xW1 (List.mem_of_getElem? (i := 1100) (by decide +kernel)) (by decide +kernel)
theorem w_1101 : Cond.sameMethod (xnm 114).cls (xnm 114).cls (xnm 114).name (xnm 114).desc ∈ xWds := xW1 (List.mem_of_getElem? (i := 1101) (by decide +kernel)) (by decide +kernel)
theorem w_1102 : Cond.sameMethod (xnm 109).cls (xnm 109).cls (xnm 109).name (xnm 109).desc ∈ xWds := xW1 (List.mem_of_getElem? (i := 1102) (by decide +kernel)) (by decide +kernel)
theorem w_1129 : Cond.fieldLink RX10 179 "Stuccohand$Plaster" "number" "I" ∈ xWds := xW1 (List.mem_of_getElem? (i := 1129) (by decide +kernel)) (by decide +kernel)
theorem w_1130 : Cond.fieldLink RX0 25 "Stuccohand$Plaster" "needOfMillimetre" "I" ∈ xWds := xW1 (List.mem_of_getElem? (i := 1130) (by decide +kernel)) (by decide +kernel)
theorem w_1131 : Cond.fieldLink RX8 40 "Stuccohand$Ground" "hardness" "I" ∈ xWds := xW1 (List.mem_of_getElem? (i := 1131) (by decide +kernel)) (by decide +kernel)
theorem w_1132 : Cond.fieldLink RX8 46 "Stuccohand$Plaster" "hardness" "I" ∈ xWds := xW1 (List.mem_of_getElem? (i := 1132) (by decide +kernel)) (by decide +kernel)
theorem w_1133 : Cond.fieldLink RX8 75 "Stuccohand$Ground" "keys" "I" ∈ xWds := xW1 (List.mem_of_getElem? (i := 1133) (by decide +kernel)) (by decide +kernel)
theorem w_1134 : Cond.fieldLink RX0 30 "Stuccohand$Plaster" "shrinkOfMillimetre" "I" ∈ xWds := xW1 (List.mem_of_getElem? (i := 1134) (by decide +kernel)) (by decide +kernel)
theorem w_1135 : Cond.fieldLink RX0 53 "Stuccohand$Plaster" "word" "Ljava/lang/String;" ∈ xWds := xW1 (List.mem_of_getElem? (i := 1135) (by decide +kernel)) (by decide +kernel)
theorem w_1136 : Cond.fieldLink RJ0 9 "java/lang/String" "value" "[B" ∈ xWds := xW1 (List.mem_of_getElem? (i := 1136) (by decide +kernel)) (by decide +kernel)
theorem w_1137 : Cond.fieldLink RJ0 15 "java/lang/String" "coder" "B" ∈ xWds := xW1 (List.mem_of_getElem? (i := 1137) (by decide +kernel)) (by decide +kernel)
theorem cw_0 : xcw 0 = Cond.code (xnm 0) cX0_init 4 none := rfl
theorem cm_0 : xcw 0 ∈ xWds := xW1 (List.mem_of_getElem? (i := 534) (by decide +kernel)) (by decide +kernel)
theorem ini_0 : Cond.initialized (xnm 0).cls ∈ xWds := xW1 (List.mem_of_getElem? (i := 22) (by decide +kernel)) (by decide +kernel)
theorem in_0 : Cond.instanceMethod (xnm 0) ∈ xWds := xW1 (List.mem_of_getElem? (i := 533) (by decide +kernel)) (by decide +kernel)
theorem nm_0 : (xnm 0).cls ≠ "java/lang/invoke/MethodHandle" ∧ (xnm 0).cls ≠ "java/lang/invoke/VarHandle" ∧ (parseMethodDescriptor (xnm 0).desc).map (fun d => d.parameters.length) = some 3 := by decide +kernel
theorem cw_1 : xcw 1 = Cond.code (xnm 1) cX0_isDry 1 (some .boolean) := rfl
theorem cm_1 : xcw 1 ∈ xWds := xW1 (List.mem_of_getElem? (i := 247) (by decide +kernel)) (by decide +kernel)
theorem ini_1 : Cond.initialized (xnm 1).cls ∈ xWds := xW1 (List.mem_of_getElem? (i := 22) (by decide +kernel)) (by decide +kernel)
theorem in_1 : Cond.instanceMethod (xnm 1) ∈ xWds := xW1 (List.mem_of_getElem? (i := 245) (by decide +kernel)) (by decide +kernel)
theorem sel_1 : Cond.selects (xnm 1).cls (xnm 1) (xnm 1) ∈ xWds := xW1 (List.mem_of_getElem? (i := 246) (by decide +kernel)) (by decide +kernel)
theorem nm_1 : (xnm 1).cls ≠ "java/lang/invoke/MethodHandle" ∧ (xnm 1).cls ≠ "java/lang/invoke/VarHandle" ∧ (parseMethodDescriptor (xnm 1).desc).map (fun d => d.parameters.length) = some 0 := by decide +kernel
theorem ns_1 : (xnm 1).name ≠ "<init>" ∧ (parseMethodDescriptor (xnm 1).desc).map (fun d => d.parameters.length) = some 0 := by decide +kernel
theorem cw_2 : xcw 2 = Cond.code (xnm 2) cX0_bondsOn 2 (some .boolean) := rfl
theorem cm_2 : xcw 2 ∈ xWds := xW1 (List.mem_of_getElem? (i := 573) (by decide +kernel)) (by decide +kernel)
theorem ini_2 : Cond.initialized (xnm 2).cls ∈ xWds := xW1 (List.mem_of_getElem? (i := 22) (by decide +kernel)) (by decide +kernel)
theorem in_2 : Cond.instanceMethod (xnm 2) ∈ xWds := xW1 (List.mem_of_getElem? (i := 571) (by decide +kernel)) (by decide +kernel)
theorem sel_2 : Cond.selects (xnm 2).cls (xnm 2) (xnm 2) ∈ xWds := xW1 (List.mem_of_getElem? (i := 572) (by decide +kernel)) (by decide +kernel)
theorem nm_2 : (xnm 2).cls ≠ "java/lang/invoke/MethodHandle" ∧ (xnm 2).cls ≠ "java/lang/invoke/VarHandle" ∧ (parseMethodDescriptor (xnm 2).desc).map (fun d => d.parameters.length) = some 1 := by decide +kernel
theorem ns_2 : (xnm 2).name ≠ "<init>" ∧ (parseMethodDescriptor (xnm 2).desc).map (fun d => d.parameters.length) = some 1 := by decide +kernel
theorem cw_3 : xcw 3 = Cond.code (xnm 3) cX0_driesBy 3 (some .boolean) := rfl
theorem cm_3 : xcw 3 ∈ xWds := xW1 (List.mem_of_getElem? (i := 634) (by decide +kernel)) (by decide +kernel)
theorem ini_3 : Cond.initialized (xnm 3).cls ∈ xWds := xW1 (List.mem_of_getElem? (i := 22) (by decide +kernel)) (by decide +kernel)
theorem in_3 : Cond.instanceMethod (xnm 3) ∈ xWds := xW1 (List.mem_of_getElem? (i := 632) (by decide +kernel)) (by decide +kernel)
theorem sel_3 : Cond.selects (xnm 3).cls (xnm 3) (xnm 3) ∈ xWds := xW1 (List.mem_of_getElem? (i := 633) (by decide +kernel)) (by decide +kernel)
theorem nm_3 : (xnm 3).cls ≠ "java/lang/invoke/MethodHandle" ∧ (xnm 3).cls ≠ "java/lang/invoke/VarHandle" ∧ (parseMethodDescriptor (xnm 3).desc).map (fun d => d.parameters.length) = some 2 := by decide +kernel
theorem ns_3 : (xnm 3).name ≠ "<init>" ∧ (parseMethodDescriptor (xnm 3).desc).map (fun d => d.parameters.length) = some 2 := by decide +kernel
theorem cw_4 : xcw 4 = Cond.code (xnm 4) cX0_countPaid 2 (some .int) := rfl
theorem cm_4 : xcw 4 ∈ xWds := xW1 (List.mem_of_getElem? (i := 985) (by decide +kernel)) (by decide +kernel)
theorem ini_4 : Cond.initialized (xnm 4).cls ∈ xWds := xW1 (List.mem_of_getElem? (i := 22) (by decide +kernel)) (by decide +kernel)
theorem in_4 : Cond.instanceMethod (xnm 4) ∈ xWds := xW1 (List.mem_of_getElem? (i := 983) (by decide +kernel)) (by decide +kernel)
theorem sel_4 : Cond.selects (xnm 4).cls (xnm 4) (xnm 4) ∈ xWds := xW1 (List.mem_of_getElem? (i := 984) (by decide +kernel)) (by decide +kernel)
theorem nm_4 : (xnm 4).cls ≠ "java/lang/invoke/MethodHandle" ∧ (xnm 4).cls ≠ "java/lang/invoke/VarHandle" ∧ (parseMethodDescriptor (xnm 4).desc).map (fun d => d.parameters.length) = some 1 := by decide +kernel
theorem ns_4 : (xnm 4).name ≠ "<init>" ∧ (parseMethodDescriptor (xnm 4).desc).map (fun d => d.parameters.length) = some 1 := by decide +kernel
theorem cw_5 : xcw 5 = Cond.code (xnm 5) cX0_inWords 2 (some (.object "java/lang/StringBuilder")) := rfl
theorem cm_5 : xcw 5 ∈ xWds := xW1 (List.mem_of_getElem? (i := 659) (by decide +kernel)) (by decide +kernel)
theorem ini_5 : Cond.initialized (xnm 5).cls ∈ xWds := xW1 (List.mem_of_getElem? (i := 22) (by decide +kernel)) (by decide +kernel)
theorem in_5 : Cond.instanceMethod (xnm 5) ∈ xWds := xW1 (List.mem_of_getElem? (i := 657) (by decide +kernel)) (by decide +kernel)
theorem sel_5 : Cond.selects (xnm 5).cls (xnm 5) (xnm 5) ∈ xWds := xW1 (List.mem_of_getElem? (i := 658) (by decide +kernel)) (by decide +kernel)
theorem nm_5 : (xnm 5).cls ≠ "java/lang/invoke/MethodHandle" ∧ (xnm 5).cls ≠ "java/lang/invoke/VarHandle" ∧ (parseMethodDescriptor (xnm 5).desc).map (fun d => d.parameters.length) = some 0 := by decide +kernel
theorem ns_5 : (xnm 5).name ≠ "<init>" ∧ (parseMethodDescriptor (xnm 5).desc).map (fun d => d.parameters.length) = some 0 := by decide +kernel
theorem cw_6 : xcw 6 = Cond.code (xnm 6) cX1_init 5 none := rfl
theorem cm_6 : xcw 6 ∈ xWds := xW1 (List.mem_of_getElem? (i := 506) (by decide +kernel)) (by decide +kernel)
theorem ini_6 : Cond.initialized (xnm 6).cls ∈ xWds := xW1 (List.mem_of_getElem? (i := 21) (by decide +kernel)) (by decide +kernel)
theorem in_6 : Cond.instanceMethod (xnm 6) ∈ xWds := xW1 (List.mem_of_getElem? (i := 505) (by decide +kernel)) (by decide +kernel)
theorem nm_6 : (xnm 6).cls ≠ "java/lang/invoke/MethodHandle" ∧ (xnm 6).cls ≠ "java/lang/invoke/VarHandle" ∧ (parseMethodDescriptor (xnm 6).desc).map (fun d => d.parameters.length) = some 4 := by decide +kernel
theorem cw_7 : xcw 7 = Cond.code (xnm 7) cX1_isOf 3 (some .boolean) := rfl
theorem cm_7 : xcw 7 ∈ xWds := xW1 (List.mem_of_getElem? (i := 650) (by decide +kernel)) (by decide +kernel)
theorem ini_7 : Cond.initialized (xnm 7).cls ∈ xWds := xW1 (List.mem_of_getElem? (i := 21) (by decide +kernel)) (by decide +kernel)
theorem in_7 : Cond.instanceMethod (xnm 7) ∈ xWds := xW1 (List.mem_of_getElem? (i := 648) (by decide +kernel)) (by decide +kernel)
theorem sel_7 : Cond.selects (xnm 7).cls (xnm 7) (xnm 7) ∈ xWds := xW1 (List.mem_of_getElem? (i := 649) (by decide +kernel)) (by decide +kernel)
theorem nm_7 : (xnm 7).cls ≠ "java/lang/invoke/MethodHandle" ∧ (xnm 7).cls ≠ "java/lang/invoke/VarHandle" ∧ (parseMethodDescriptor (xnm 7).desc).map (fun d => d.parameters.length) = some 2 := by decide +kernel
theorem ns_7 : (xnm 7).name ≠ "<init>" ∧ (parseMethodDescriptor (xnm 7).desc).map (fun d => d.parameters.length) = some 2 := by decide +kernel
theorem cw_8 : xcw 8 = Cond.code (xnm 8) cX2_init 2 none := rfl
theorem cm_8 : xcw 8 ∈ xWds := xW1 (List.mem_of_getElem? (i := 85) (by decide +kernel)) (by decide +kernel)
theorem ini_8 : Cond.initialized (xnm 8).cls ∈ xWds := xW1 (List.mem_of_getElem? (i := 6) (by decide +kernel)) (by decide +kernel)
theorem in_8 : Cond.instanceMethod (xnm 8) ∈ xWds := xW1 (List.mem_of_getElem? (i := 84) (by decide +kernel)) (by decide +kernel)
theorem nm_8 : (xnm 8).cls ≠ "java/lang/invoke/MethodHandle" ∧ (xnm 8).cls ≠ "java/lang/invoke/VarHandle" ∧ (parseMethodDescriptor (xnm 8).desc).map (fun d => d.parameters.length) = some 0 := by decide +kernel
theorem cw_9 : xcw 9 = Cond.code (xnm 9) cX2_windowOf 2 (some .int) := rfl
theorem cm_9 : xcw 9 ∈ xWds := xW1 (List.mem_of_getElem? (i := 959) (by decide +kernel)) (by decide +kernel)
theorem ini_9 : Cond.initialized (xnm 9).cls ∈ xWds := xW1 (List.mem_of_getElem? (i := 6) (by decide +kernel)) (by decide +kernel)
theorem in_9 : Cond.instanceMethod (xnm 9) ∈ xWds := xW1 (List.mem_of_getElem? (i := 957) (by decide +kernel)) (by decide +kernel)
theorem sel_9 : Cond.selects (xnm 9).cls (xnm 9) (xnm 9) ∈ xWds := xW1 (List.mem_of_getElem? (i := 958) (by decide +kernel)) (by decide +kernel)
theorem nm_9 : (xnm 9).cls ≠ "java/lang/invoke/MethodHandle" ∧ (xnm 9).cls ≠ "java/lang/invoke/VarHandle" ∧ (parseMethodDescriptor (xnm 9).desc).map (fun d => d.parameters.length) = some 1 := by decide +kernel
theorem ns_9 : (xnm 9).name ≠ "<init>" ∧ (parseMethodDescriptor (xnm 9).desc).map (fun d => d.parameters.length) = some 1 := by decide +kernel
theorem cw_10 : xcw 10 = Cond.code (xnm 10) cX2_setWindow 3 none := rfl
theorem cm_10 : xcw 10 ∈ xWds := xW1 (List.mem_of_getElem? (i := 963) (by decide +kernel)) (by decide +kernel)
theorem ini_10 : Cond.initialized (xnm 10).cls ∈ xWds := xW1 (List.mem_of_getElem? (i := 6) (by decide +kernel)) (by decide +kernel)
theorem in_10 : Cond.instanceMethod (xnm 10) ∈ xWds := xW1 (List.mem_of_getElem? (i := 961) (by decide +kernel)) (by decide +kernel)
theorem sel_10 : Cond.selects (xnm 10).cls (xnm 10) (xnm 10) ∈ xWds := xW1 (List.mem_of_getElem? (i := 962) (by decide +kernel)) (by decide +kernel)
theorem nm_10 : (xnm 10).cls ≠ "java/lang/invoke/MethodHandle" ∧ (xnm 10).cls ≠ "java/lang/invoke/VarHandle" ∧ (parseMethodDescriptor (xnm 10).desc).map (fun d => d.parameters.length) = some 2 := by decide +kernel
theorem ns_10 : (xnm 10).name ≠ "<init>" ∧ (parseMethodDescriptor (xnm 10).desc).map (fun d => d.parameters.length) = some 2 := by decide +kernel
theorem cw_11 : xcw 11 = Cond.code (xnm 11) cX2_countPatches 1 (some .int) := rfl
theorem cm_11 : xcw 11 ∈ xWds := xW1 (List.mem_of_getElem? (i := 1010) (by decide +kernel)) (by decide +kernel)
theorem ini_11 : Cond.initialized (xnm 11).cls ∈ xWds := xW1 (List.mem_of_getElem? (i := 6) (by decide +kernel)) (by decide +kernel)
theorem in_11 : Cond.instanceMethod (xnm 11) ∈ xWds := xW1 (List.mem_of_getElem? (i := 1008) (by decide +kernel)) (by decide +kernel)
theorem sel_11 : Cond.selects (xnm 11).cls (xnm 11) (xnm 11) ∈ xWds := xW1 (List.mem_of_getElem? (i := 1009) (by decide +kernel)) (by decide +kernel)
theorem nm_11 : (xnm 11).cls ≠ "java/lang/invoke/MethodHandle" ∧ (xnm 11).cls ≠ "java/lang/invoke/VarHandle" ∧ (parseMethodDescriptor (xnm 11).desc).map (fun d => d.parameters.length) = some 0 := by decide +kernel
theorem ns_11 : (xnm 11).name ≠ "<init>" ∧ (parseMethodDescriptor (xnm 11).desc).map (fun d => d.parameters.length) = some 0 := by decide +kernel
theorem cw_12 : xcw 12 = Cond.code (xnm 12) cX2_patchAt 2 (some (.object "Stuccohand$Patch")) := rfl
theorem cm_12 : xcw 12 ∈ xWds := xW1 (List.mem_of_getElem? (i := 298) (by decide +kernel)) (by decide +kernel)
theorem ini_12 : Cond.initialized (xnm 12).cls ∈ xWds := xW1 (List.mem_of_getElem? (i := 6) (by decide +kernel)) (by decide +kernel)
theorem in_12 : Cond.instanceMethod (xnm 12) ∈ xWds := xW1 (List.mem_of_getElem? (i := 296) (by decide +kernel)) (by decide +kernel)
theorem sel_12 : Cond.selects (xnm 12).cls (xnm 12) (xnm 12) ∈ xWds := xW1 (List.mem_of_getElem? (i := 297) (by decide +kernel)) (by decide +kernel)
theorem nm_12 : (xnm 12).cls ≠ "java/lang/invoke/MethodHandle" ∧ (xnm 12).cls ≠ "java/lang/invoke/VarHandle" ∧ (parseMethodDescriptor (xnm 12).desc).map (fun d => d.parameters.length) = some 1 := by decide +kernel
theorem ns_12 : (xnm 12).name ≠ "<init>" ∧ (parseMethodDescriptor (xnm 12).desc).map (fun d => d.parameters.length) = some 1 := by decide +kernel
theorem cw_13 : xcw 13 = Cond.code (xnm 13) cX10_hasCell 3 (some .boolean) := rfl
theorem cm_13 : xcw 13 ∈ xWds := xW1 (List.mem_of_getElem? (i := 278) (by decide +kernel)) (by decide +kernel)
theorem ini_13 : Cond.initialized (xnm 13).cls ∈ xWds := xW1 (List.mem_of_getElem? (i := 1) (by decide +kernel)) (by decide +kernel)
theorem st_13 : Cond.static (xnm 13) ∈ xWds := xW1 (List.mem_of_getElem? (i := 277) (by decide +kernel)) (by decide +kernel)
theorem nm_13 : (xnm 13).cls ≠ "java/lang/invoke/MethodHandle" ∧ (xnm 13).cls ≠ "java/lang/invoke/VarHandle" ∧ (parseMethodDescriptor (xnm 13).desc).map (fun d => d.parameters.length) = some 2 := by decide +kernel
theorem ns_13 : (xnm 13).name ≠ "<init>" ∧ (parseMethodDescriptor (xnm 13).desc).map (fun d => d.parameters.length) = some 2 := by decide +kernel
theorem cw_14 : xcw 14 = Cond.code (xnm 14) cX2_setColour 6 none := rfl
theorem cm_14 : xcw 14 ∈ xWds := xW1 (List.mem_of_getElem? (i := 1020) (by decide +kernel)) (by decide +kernel)
theorem ini_14 : Cond.initialized (xnm 14).cls ∈ xWds := xW1 (List.mem_of_getElem? (i := 6) (by decide +kernel)) (by decide +kernel)
theorem in_14 : Cond.instanceMethod (xnm 14) ∈ xWds := xW1 (List.mem_of_getElem? (i := 1018) (by decide +kernel)) (by decide +kernel)
theorem sel_14 : Cond.selects (xnm 14).cls (xnm 14) (xnm 14) ∈ xWds := xW1 (List.mem_of_getElem? (i := 1019) (by decide +kernel)) (by decide +kernel)
theorem nm_14 : (xnm 14).cls ≠ "java/lang/invoke/MethodHandle" ∧ (xnm 14).cls ≠ "java/lang/invoke/VarHandle" ∧ (parseMethodDescriptor (xnm 14).desc).map (fun d => d.parameters.length) = some 3 := by decide +kernel
theorem ns_14 : (xnm 14).name ≠ "<init>" ∧ (parseMethodDescriptor (xnm 14).desc).map (fun d => d.parameters.length) = some 3 := by decide +kernel
theorem cw_15 : xcw 15 = Cond.code (xnm 15) cX5_init 4 none := rfl
theorem cm_15 : xcw 15 ∈ xWds := xW1 (List.mem_of_getElem? (i := 1024) (by decide +kernel)) (by decide +kernel)
theorem ini_15 : Cond.initialized (xnm 15).cls ∈ xWds := xW1 (List.mem_of_getElem? (i := 33) (by decide +kernel)) (by decide +kernel)
theorem in_15 : Cond.instanceMethod (xnm 15) ∈ xWds := xW1 (List.mem_of_getElem? (i := 1023) (by decide +kernel)) (by decide +kernel)
theorem nm_15 : (xnm 15).cls ≠ "java/lang/invoke/MethodHandle" ∧ (xnm 15).cls ≠ "java/lang/invoke/VarHandle" ∧ (parseMethodDescriptor (xnm 15).desc).map (fun d => d.parameters.length) = some 2 := by decide +kernel
theorem cw_16 : xcw 16 = Cond.code (xnm 16) cX2_layPatch 5 none := rfl
theorem cm_16 : xcw 16 ∈ xWds := xW1 (List.mem_of_getElem? (i := 1015) (by decide +kernel)) (by decide +kernel)
theorem ini_16 : Cond.initialized (xnm 16).cls ∈ xWds := xW1 (List.mem_of_getElem? (i := 6) (by decide +kernel)) (by decide +kernel)
theorem in_16 : Cond.instanceMethod (xnm 16) ∈ xWds := xW1 (List.mem_of_getElem? (i := 1013) (by decide +kernel)) (by decide +kernel)
theorem sel_16 : Cond.selects (xnm 16).cls (xnm 16) (xnm 16) ∈ xWds := xW1 (List.mem_of_getElem? (i := 1014) (by decide +kernel)) (by decide +kernel)
theorem nm_16 : (xnm 16).cls ≠ "java/lang/invoke/MethodHandle" ∧ (xnm 16).cls ≠ "java/lang/invoke/VarHandle" ∧ (parseMethodDescriptor (xnm 16).desc).map (fun d => d.parameters.length) = some 2 := by decide +kernel
theorem ns_16 : (xnm 16).name ≠ "<init>" ∧ (parseMethodDescriptor (xnm 16).desc).map (fun d => d.parameters.length) = some 2 := by decide +kernel
theorem cw_17 : xcw 17 = Cond.code (xnm 17) cX2_patchWith 3 (some .int) := rfl
theorem cm_17 : xcw 17 ∈ xWds := xW1 (List.mem_of_getElem? (i := 272) (by decide +kernel)) (by decide +kernel)
theorem ini_17 : Cond.initialized (xnm 17).cls ∈ xWds := xW1 (List.mem_of_getElem? (i := 6) (by decide +kernel)) (by decide +kernel)
theorem in_17 : Cond.instanceMethod (xnm 17) ∈ xWds := xW1 (List.mem_of_getElem? (i := 270) (by decide +kernel)) (by decide +kernel)
theorem sel_17 : Cond.selects (xnm 17).cls (xnm 17) (xnm 17) ∈ xWds := xW1 (List.mem_of_getElem? (i := 271) (by decide +kernel)) (by decide +kernel)
theorem nm_17 : (xnm 17).cls ≠ "java/lang/invoke/MethodHandle" ∧ (xnm 17).cls ≠ "java/lang/invoke/VarHandle" ∧ (parseMethodDescriptor (xnm 17).desc).map (fun d => d.parameters.length) = some 1 := by decide +kernel
theorem ns_17 : (xnm 17).name ≠ "<init>" ∧ (parseMethodDescriptor (xnm 17).desc).map (fun d => d.parameters.length) = some 1 := by decide +kernel
theorem cw_18 : xcw 18 = Cond.code (xnm 18) cX2_pigmentOn 2 (some .int) := rfl
theorem cm_18 : xcw 18 ∈ xWds := xW1 (List.mem_of_getElem? (i := 282) (by decide +kernel)) (by decide +kernel)
theorem ini_18 : Cond.initialized (xnm 18).cls ∈ xWds := xW1 (List.mem_of_getElem? (i := 6) (by decide +kernel)) (by decide +kernel)
theorem in_18 : Cond.instanceMethod (xnm 18) ∈ xWds := xW1 (List.mem_of_getElem? (i := 280) (by decide +kernel)) (by decide +kernel)
theorem sel_18 : Cond.selects (xnm 18).cls (xnm 18) (xnm 18) ∈ xWds := xW1 (List.mem_of_getElem? (i := 281) (by decide +kernel)) (by decide +kernel)
theorem nm_18 : (xnm 18).cls ≠ "java/lang/invoke/MethodHandle" ∧ (xnm 18).cls ≠ "java/lang/invoke/VarHandle" ∧ (parseMethodDescriptor (xnm 18).desc).map (fun d => d.parameters.length) = some 1 := by decide +kernel
theorem ns_18 : (xnm 18).name ≠ "<init>" ∧ (parseMethodDescriptor (xnm 18).desc).map (fun d => d.parameters.length) = some 1 := by decide +kernel
theorem cw_19 : xcw 19 = Cond.code (xnm 19) cX2_isSecco 2 (some .boolean) := rfl
theorem cm_19 : xcw 19 ∈ xWds := xW1 (List.mem_of_getElem? (i := 286) (by decide +kernel)) (by decide +kernel)
theorem ini_19 : Cond.initialized (xnm 19).cls ∈ xWds := xW1 (List.mem_of_getElem? (i := 6) (by decide +kernel)) (by decide +kernel)
theorem in_19 : Cond.instanceMethod (xnm 19) ∈ xWds := xW1 (List.mem_of_getElem? (i := 284) (by decide +kernel)) (by decide +kernel)
theorem sel_19 : Cond.selects (xnm 19).cls (xnm 19) (xnm 19) ∈ xWds := xW1 (List.mem_of_getElem? (i := 285) (by decide +kernel)) (by decide +kernel)
theorem nm_19 : (xnm 19).cls ≠ "java/lang/invoke/MethodHandle" ∧ (xnm 19).cls ≠ "java/lang/invoke/VarHandle" ∧ (parseMethodDescriptor (xnm 19).desc).map (fun d => d.parameters.length) = some 1 := by decide +kernel
theorem ns_19 : (xnm 19).name ≠ "<init>" ∧ (parseMethodDescriptor (xnm 19).desc).map (fun d => d.parameters.length) = some 1 := by decide +kernel
theorem cw_20 : xcw 20 = Cond.code (xnm 20) cX2_countMetBefore 6 (some .int) := rfl
theorem cm_20 : xcw 20 ∈ xWds := xW1 (List.mem_of_getElem? (i := 309) (by decide +kernel)) (by decide +kernel)
theorem ini_20 : Cond.initialized (xnm 20).cls ∈ xWds := xW1 (List.mem_of_getElem? (i := 6) (by decide +kernel)) (by decide +kernel)
theorem in_20 : Cond.instanceMethod (xnm 20) ∈ xWds := xW1 (List.mem_of_getElem? (i := 307) (by decide +kernel)) (by decide +kernel)
theorem sel_20 : Cond.selects (xnm 20).cls (xnm 20) (xnm 20) ∈ xWds := xW1 (List.mem_of_getElem? (i := 308) (by decide +kernel)) (by decide +kernel)
theorem nm_20 : (xnm 20).cls ≠ "java/lang/invoke/MethodHandle" ∧ (xnm 20).cls ≠ "java/lang/invoke/VarHandle" ∧ (parseMethodDescriptor (xnm 20).desc).map (fun d => d.parameters.length) = some 2 := by decide +kernel
theorem ns_20 : (xnm 20).name ≠ "<init>" ∧ (parseMethodDescriptor (xnm 20).desc).map (fun d => d.parameters.length) = some 2 := by decide +kernel
theorem cw_21 : xcw 21 = Cond.code (xnm 21) cX4_init 1 none := rfl
theorem cm_21 : xcw 21 ∈ xWds := xW1 (List.mem_of_getElem? (i := 73) (by decide +kernel)) (by decide +kernel)
theorem ini_21 : Cond.initialized (xnm 21).cls ∈ xWds := xW1 (List.mem_of_getElem? (i := 5) (by decide +kernel)) (by decide +kernel)
theorem in_21 : Cond.instanceMethod (xnm 21) ∈ xWds := xW1 (List.mem_of_getElem? (i := 72) (by decide +kernel)) (by decide +kernel)
theorem nm_21 : (xnm 21).cls ≠ "java/lang/invoke/MethodHandle" ∧ (xnm 21).cls ≠ "java/lang/invoke/VarHandle" ∧ (parseMethodDescriptor (xnm 21).desc).map (fun d => d.parameters.length) = some 0 := by decide +kernel
theorem cw_22 : xcw 22 = Cond.code (xnm 22) cX4_isFull 1 (some .boolean) := rfl
theorem cm_22 : xcw 22 ∈ xWds := xW1 (List.mem_of_getElem? (i := 480) (by decide +kernel)) (by decide +kernel)
theorem ini_22 : Cond.initialized (xnm 22).cls ∈ xWds := xW1 (List.mem_of_getElem? (i := 5) (by decide +kernel)) (by decide +kernel)
theorem in_22 : Cond.instanceMethod (xnm 22) ∈ xWds := xW1 (List.mem_of_getElem? (i := 478) (by decide +kernel)) (by decide +kernel)
theorem sel_22 : Cond.selects (xnm 22).cls (xnm 22) (xnm 22) ∈ xWds := xW1 (List.mem_of_getElem? (i := 479) (by decide +kernel)) (by decide +kernel)
theorem nm_22 : (xnm 22).cls ≠ "java/lang/invoke/MethodHandle" ∧ (xnm 22).cls ≠ "java/lang/invoke/VarHandle" ∧ (parseMethodDescriptor (xnm 22).desc).map (fun d => d.parameters.length) = some 0 := by decide +kernel
theorem ns_22 : (xnm 22).name ≠ "<init>" ∧ (parseMethodDescriptor (xnm 22).desc).map (fun d => d.parameters.length) = some 0 := by decide +kernel
theorem cw_23 : xcw 23 = Cond.code (xnm 23) cX4_note 5 none := rfl
theorem cm_23 : xcw 23 ∈ xWds := xW1 (List.mem_of_getElem? (i := 501) (by decide +kernel)) (by decide +kernel)
theorem ini_23 : Cond.initialized (xnm 23).cls ∈ xWds := xW1 (List.mem_of_getElem? (i := 5) (by decide +kernel)) (by decide +kernel)
theorem in_23 : Cond.instanceMethod (xnm 23) ∈ xWds := xW1 (List.mem_of_getElem? (i := 499) (by decide +kernel)) (by decide +kernel)
theorem sel_23 : Cond.selects (xnm 23).cls (xnm 23) (xnm 23) ∈ xWds := xW1 (List.mem_of_getElem? (i := 500) (by decide +kernel)) (by decide +kernel)
theorem nm_23 : (xnm 23).cls ≠ "java/lang/invoke/MethodHandle" ∧ (xnm 23).cls ≠ "java/lang/invoke/VarHandle" ∧ (parseMethodDescriptor (xnm 23).desc).map (fun d => d.parameters.length) = some 4 := by decide +kernel
theorem ns_23 : (xnm 23).name ≠ "<init>" ∧ (parseMethodDescriptor (xnm 23).desc).map (fun d => d.parameters.length) = some 4 := by decide +kernel
theorem cw_24 : xcw 24 = Cond.code (xnm 24) cX4_countCoats 6 (some .int) := rfl
theorem cm_24 : xcw 24 ∈ xWds := xW1 (List.mem_of_getElem? (i := 645) (by decide +kernel)) (by decide +kernel)
theorem ini_24 : Cond.initialized (xnm 24).cls ∈ xWds := xW1 (List.mem_of_getElem? (i := 5) (by decide +kernel)) (by decide +kernel)
theorem in_24 : Cond.instanceMethod (xnm 24) ∈ xWds := xW1 (List.mem_of_getElem? (i := 643) (by decide +kernel)) (by decide +kernel)
theorem sel_24 : Cond.selects (xnm 24).cls (xnm 24) (xnm 24) ∈ xWds := xW1 (List.mem_of_getElem? (i := 644) (by decide +kernel)) (by decide +kernel)
theorem nm_24 : (xnm 24).cls ≠ "java/lang/invoke/MethodHandle" ∧ (xnm 24).cls ≠ "java/lang/invoke/VarHandle" ∧ (parseMethodDescriptor (xnm 24).desc).map (fun d => d.parameters.length) = some 2 := by decide +kernel
theorem ns_24 : (xnm 24).name ≠ "<init>" ∧ (parseMethodDescriptor (xnm 24).desc).map (fun d => d.parameters.length) = some 2 := by decide +kernel
theorem cw_25 : xcw 25 = Cond.code (xnm 25) cX7_init 2 none := rfl
theorem cm_25 : xcw 25 ∈ xWds := xW1 (List.mem_of_getElem? (i := 875) (by decide +kernel)) (by decide +kernel)
theorem ini_25 : Cond.initialized (xnm 25).cls ∈ xWds := xW1 (List.mem_of_getElem? (i := 32) (by decide +kernel)) (by decide +kernel)
theorem in_25 : Cond.instanceMethod (xnm 25) ∈ xWds := xW1 (List.mem_of_getElem? (i := 874) (by decide +kernel)) (by decide +kernel)
theorem nm_25 : (xnm 25).cls ≠ "java/lang/invoke/MethodHandle" ∧ (xnm 25).cls ≠ "java/lang/invoke/VarHandle" ∧ (parseMethodDescriptor (xnm 25).desc).map (fun d => d.parameters.length) = some 1 := by decide +kernel
theorem cw_26 : xcw 26 = Cond.code (xnm 26) cX7_countDepths 1 (some .int) := rfl
theorem cm_26 : xcw 26 ∈ xWds := xW1 (List.mem_of_getElem? (i := 905) (by decide +kernel)) (by decide +kernel)
theorem ini_26 : Cond.initialized (xnm 26).cls ∈ xWds := xW1 (List.mem_of_getElem? (i := 32) (by decide +kernel)) (by decide +kernel)
theorem in_26 : Cond.instanceMethod (xnm 26) ∈ xWds := xW1 (List.mem_of_getElem? (i := 903) (by decide +kernel)) (by decide +kernel)
theorem sel_26 : Cond.selects (xnm 26).cls (xnm 26) (xnm 26) ∈ xWds := xW1 (List.mem_of_getElem? (i := 904) (by decide +kernel)) (by decide +kernel)
theorem nm_26 : (xnm 26).cls ≠ "java/lang/invoke/MethodHandle" ∧ (xnm 26).cls ≠ "java/lang/invoke/VarHandle" ∧ (parseMethodDescriptor (xnm 26).desc).map (fun d => d.parameters.length) = some 0 := by decide +kernel
theorem ns_26 : (xnm 26).name ≠ "<init>" ∧ (parseMethodDescriptor (xnm 26).desc).map (fun d => d.parameters.length) = some 0 := by decide +kernel
theorem cw_27 : xcw 27 = Cond.code (xnm 27) cX7_isFull 1 (some .boolean) := rfl
theorem cm_27 : xcw 27 ∈ xWds := xW1 (List.mem_of_getElem? (i := 896) (by decide +kernel)) (by decide +kernel)
theorem ini_27 : Cond.initialized (xnm 27).cls ∈ xWds := xW1 (List.mem_of_getElem? (i := 32) (by decide +kernel)) (by decide +kernel)
theorem in_27 : Cond.instanceMethod (xnm 27) ∈ xWds := xW1 (List.mem_of_getElem? (i := 894) (by decide +kernel)) (by decide +kernel)
theorem sel_27 : Cond.selects (xnm 27).cls (xnm 27) (xnm 27) ∈ xWds := xW1 (List.mem_of_getElem? (i := 895) (by decide +kernel)) (by decide +kernel)
theorem nm_27 : (xnm 27).cls ≠ "java/lang/invoke/MethodHandle" ∧ (xnm 27).cls ≠ "java/lang/invoke/VarHandle" ∧ (parseMethodDescriptor (xnm 27).desc).map (fun d => d.parameters.length) = some 0 := by decide +kernel
theorem ns_27 : (xnm 27).name ≠ "<init>" ∧ (parseMethodDescriptor (xnm 27).desc).map (fun d => d.parameters.length) = some 0 := by decide +kernel
theorem cw_28 : xcw 28 = Cond.code (xnm 28) cX7_append 2 none := rfl
theorem cm_28 : xcw 28 ∈ xWds := xW1 (List.mem_of_getElem? (i := 901) (by decide +kernel)) (by decide +kernel)
theorem ini_28 : Cond.initialized (xnm 28).cls ∈ xWds := xW1 (List.mem_of_getElem? (i := 32) (by decide +kernel)) (by decide +kernel)
theorem in_28 : Cond.instanceMethod (xnm 28) ∈ xWds := xW1 (List.mem_of_getElem? (i := 899) (by decide +kernel)) (by decide +kernel)
theorem sel_28 : Cond.selects (xnm 28).cls (xnm 28) (xnm 28) ∈ xWds := xW1 (List.mem_of_getElem? (i := 900) (by decide +kernel)) (by decide +kernel)
theorem nm_28 : (xnm 28).cls ≠ "java/lang/invoke/MethodHandle" ∧ (xnm 28).cls ≠ "java/lang/invoke/VarHandle" ∧ (parseMethodDescriptor (xnm 28).desc).map (fun d => d.parameters.length) = some 1 := by decide +kernel
theorem ns_28 : (xnm 28).name ≠ "<init>" ∧ (parseMethodDescriptor (xnm 28).desc).map (fun d => d.parameters.length) = some 1 := by decide +kernel
theorem cw_29 : xcw 29 = Cond.code (xnm 29) cX7_depthAt 3 (some .int) := rfl
theorem cm_29 : xcw 29 ∈ xWds := xW1 (List.mem_of_getElem? (i := 916) (by decide +kernel)) (by decide +kernel)
theorem ini_29 : Cond.initialized (xnm 29).cls ∈ xWds := xW1 (List.mem_of_getElem? (i := 32) (by decide +kernel)) (by decide +kernel)
theorem in_29 : Cond.instanceMethod (xnm 29) ∈ xWds := xW1 (List.mem_of_getElem? (i := 914) (by decide +kernel)) (by decide +kernel)
theorem sel_29 : Cond.selects (xnm 29).cls (xnm 29) (xnm 29) ∈ xWds := xW1 (List.mem_of_getElem? (i := 915) (by decide +kernel)) (by decide +kernel)
theorem nm_29 : (xnm 29).cls ≠ "java/lang/invoke/MethodHandle" ∧ (xnm 29).cls ≠ "java/lang/invoke/VarHandle" ∧ (parseMethodDescriptor (xnm 29).desc).map (fun d => d.parameters.length) = some 1 := by decide +kernel
theorem ns_29 : (xnm 29).name ≠ "<init>" ∧ (parseMethodDescriptor (xnm 29).desc).map (fun d => d.parameters.length) = some 1 := by decide +kernel
theorem cw_30 : xcw 30 = Cond.code (xnm 30) cX8_init 2 none := rfl
theorem cm_30 : xcw 30 ∈ xWds := xW1 (List.mem_of_getElem? (i := 355) (by decide +kernel)) (by decide +kernel)
theorem ini_30 : Cond.initialized (xnm 30).cls ∈ xWds := xW1 (List.mem_of_getElem? (i := 16) (by decide +kernel)) (by decide +kernel)
theorem in_30 : Cond.instanceMethod (xnm 30) ∈ xWds := xW1 (List.mem_of_getElem? (i := 354) (by decide +kernel)) (by decide +kernel)
theorem nm_30 : (xnm 30).cls ≠ "java/lang/invoke/MethodHandle" ∧ (xnm 30).cls ≠ "java/lang/invoke/VarHandle" ∧ (parseMethodDescriptor (xnm 30).desc).map (fun d => d.parameters.length) = some 1 := by decide +kernel
theorem cw_31 : xcw 31 = Cond.code (xnm 31) cX8_countCoats 1 (some .int) := rfl
theorem cm_31 : xcw 31 ∈ xWds := xW1 (List.mem_of_getElem? (i := 587) (by decide +kernel)) (by decide +kernel)
theorem ini_31 : Cond.initialized (xnm 31).cls ∈ xWds := xW1 (List.mem_of_getElem? (i := 16) (by decide +kernel)) (by decide +kernel)
theorem in_31 : Cond.instanceMethod (xnm 31) ∈ xWds := xW1 (List.mem_of_getElem? (i := 585) (by decide +kernel)) (by decide +kernel)
theorem sel_31 : Cond.selects (xnm 31).cls (xnm 31) (xnm 31) ∈ xWds := xW1 (List.mem_of_getElem? (i := 586) (by decide +kernel)) (by decide +kernel)
theorem nm_31 : (xnm 31).cls ≠ "java/lang/invoke/MethodHandle" ∧ (xnm 31).cls ≠ "java/lang/invoke/VarHandle" ∧ (parseMethodDescriptor (xnm 31).desc).map (fun d => d.parameters.length) = some 0 := by decide +kernel
theorem ns_31 : (xnm 31).name ≠ "<init>" ∧ (parseMethodDescriptor (xnm 31).desc).map (fun d => d.parameters.length) = some 0 := by decide +kernel
theorem cw_32 : xcw 32 = Cond.code (xnm 32) cX8_coatAt 2 (some (.object "Stuccohand$Coat")) := rfl
theorem cm_32 : xcw 32 ∈ xWds := xW1 (List.mem_of_getElem? (i := 239) (by decide +kernel)) (by decide +kernel)
theorem ini_32 : Cond.initialized (xnm 32).cls ∈ xWds := xW1 (List.mem_of_getElem? (i := 16) (by decide +kernel)) (by decide +kernel)
theorem in_32 : Cond.instanceMethod (xnm 32) ∈ xWds := xW1 (List.mem_of_getElem? (i := 237) (by decide +kernel)) (by decide +kernel)
theorem sel_32 : Cond.selects (xnm 32).cls (xnm 32) (xnm 32) ∈ xWds := xW1 (List.mem_of_getElem? (i := 238) (by decide +kernel)) (by decide +kernel)
theorem nm_32 : (xnm 32).cls ≠ "java/lang/invoke/MethodHandle" ∧ (xnm 32).cls ≠ "java/lang/invoke/VarHandle" ∧ (parseMethodDescriptor (xnm 32).desc).map (fun d => d.parameters.length) = some 1 := by decide +kernel
theorem ns_32 : (xnm 32).name ≠ "<init>" ∧ (parseMethodDescriptor (xnm 32).desc).map (fun d => d.parameters.length) = some 1 := by decide +kernel
theorem cw_33 : xcw 33 = Cond.code (xnm 33) cX8_topCoat 1 (some (.object "Stuccohand$Coat")) := rfl
theorem cm_33 : xcw 33 ∈ xWds := xW1 (List.mem_of_getElem? (i := 494) (by decide +kernel)) (by decide +kernel)
theorem ini_33 : Cond.initialized (xnm 33).cls ∈ xWds := xW1 (List.mem_of_getElem? (i := 16) (by decide +kernel)) (by decide +kernel)
theorem in_33 : Cond.instanceMethod (xnm 33) ∈ xWds := xW1 (List.mem_of_getElem? (i := 492) (by decide +kernel)) (by decide +kernel)
theorem sel_33 : Cond.selects (xnm 33).cls (xnm 33) (xnm 33) ∈ xWds := xW1 (List.mem_of_getElem? (i := 493) (by decide +kernel)) (by decide +kernel)
theorem nm_33 : (xnm 33).cls ≠ "java/lang/invoke/MethodHandle" ∧ (xnm 33).cls ≠ "java/lang/invoke/VarHandle" ∧ (parseMethodDescriptor (xnm 33).desc).map (fun d => d.parameters.length) = some 0 := by decide +kernel
theorem ns_33 : (xnm 33).name ≠ "<init>" ∧ (parseMethodDescriptor (xnm 33).desc).map (fun d => d.parameters.length) = some 0 := by decide +kernel
theorem cw_34 : xcw 34 = Cond.code (xnm 34) cX8_takes 3 (some .boolean) := rfl
theorem cm_34 : xcw 34 ∈ xWds := xW1 (List.mem_of_getElem? (i := 490) (by decide +kernel)) (by decide +kernel)
theorem ini_34 : Cond.initialized (xnm 34).cls ∈ xWds := xW1 (List.mem_of_getElem? (i := 16) (by decide +kernel)) (by decide +kernel)
theorem in_34 : Cond.instanceMethod (xnm 34) ∈ xWds := xW1 (List.mem_of_getElem? (i := 488) (by decide +kernel)) (by decide +kernel)
theorem sel_34 : Cond.selects (xnm 34).cls (xnm 34) (xnm 34) ∈ xWds := xW1 (List.mem_of_getElem? (i := 489) (by decide +kernel)) (by decide +kernel)
theorem nm_34 : (xnm 34).cls ≠ "java/lang/invoke/MethodHandle" ∧ (xnm 34).cls ≠ "java/lang/invoke/VarHandle" ∧ (parseMethodDescriptor (xnm 34).desc).map (fun d => d.parameters.length) = some 1 := by decide +kernel
theorem ns_34 : (xnm 34).name ≠ "<init>" ∧ (parseMethodDescriptor (xnm 34).desc).map (fun d => d.parameters.length) = some 1 := by decide +kernel
theorem cw_35 : xcw 35 = Cond.code (xnm 35) cX8_keysBelow 2 (some .int) := rfl
theorem cm_35 : xcw 35 ∈ xWds := xW1 (List.mem_of_getElem? (i := 569) (by decide +kernel)) (by decide +kernel)
theorem ini_35 : Cond.initialized (xnm 35).cls ∈ xWds := xW1 (List.mem_of_getElem? (i := 16) (by decide +kernel)) (by decide +kernel)
theorem in_35 : Cond.instanceMethod (xnm 35) ∈ xWds := xW1 (List.mem_of_getElem? (i := 568) (by decide +kernel)) (by decide +kernel)
theorem sel_35 : Cond.selects (xnm 35).cls (xnm 35) (xnm 35) ∈ xWds := xWds_in (List.mem_append_left _ (List.mem_of_getElem? (i := 8) (by decide +kernel))) (by decide +kernel)
theorem nm_35 : (xnm 35).cls ≠ "java/lang/invoke/MethodHandle" ∧ (xnm 35).cls ≠ "java/lang/invoke/VarHandle" ∧ (parseMethodDescriptor (xnm 35).desc).map (fun d => d.parameters.length) = some 0 := by decide +kernel
theorem ns_35 : (xnm 35).name ≠ "<init>" ∧ (parseMethodDescriptor (xnm 35).desc).map (fun d => d.parameters.length) = some 0 := by decide +kernel
theorem cw_36 : xcw 36 = Cond.code (xnm 36) cX8_layCoat 5 none := rfl
theorem cm_36 : xcw 36 ∈ xWds := xW1 (List.mem_of_getElem? (i := 530) (by decide +kernel)) (by decide +kernel)
theorem ini_36 : Cond.initialized (xnm 36).cls ∈ xWds := xW1 (List.mem_of_getElem? (i := 16) (by decide +kernel)) (by decide +kernel)
theorem in_36 : Cond.instanceMethod (xnm 36) ∈ xWds := xW1 (List.mem_of_getElem? (i := 528) (by decide +kernel)) (by decide +kernel)
theorem sel_36 : Cond.selects (xnm 36).cls (xnm 36) (xnm 36) ∈ xWds := xW1 (List.mem_of_getElem? (i := 529) (by decide +kernel)) (by decide +kernel)
theorem nm_36 : (xnm 36).cls ≠ "java/lang/invoke/MethodHandle" ∧ (xnm 36).cls ≠ "java/lang/invoke/VarHandle" ∧ (parseMethodDescriptor (xnm 36).desc).map (fun d => d.parameters.length) = some 3 := by decide +kernel
theorem ns_36 : (xnm 36).name ≠ "<init>" ∧ (parseMethodDescriptor (xnm 36).desc).map (fun d => d.parameters.length) = some 3 := by decide +kernel
theorem cw_37 : xcw 37 = Cond.code (xnm 37) cX8_strikeTop 2 none := rfl
theorem cm_37 : xcw 37 ∈ xWds := xW1 (List.mem_of_getElem? (i := 610) (by decide +kernel)) (by decide +kernel)
theorem ini_37 : Cond.initialized (xnm 37).cls ∈ xWds := xW1 (List.mem_of_getElem? (i := 16) (by decide +kernel)) (by decide +kernel)
theorem in_37 : Cond.instanceMethod (xnm 37) ∈ xWds := xW1 (List.mem_of_getElem? (i := 608) (by decide +kernel)) (by decide +kernel)
theorem sel_37 : Cond.selects (xnm 37).cls (xnm 37) (xnm 37) ∈ xWds := xW1 (List.mem_of_getElem? (i := 609) (by decide +kernel)) (by decide +kernel)
theorem nm_37 : (xnm 37).cls ≠ "java/lang/invoke/MethodHandle" ∧ (xnm 37).cls ≠ "java/lang/invoke/VarHandle" ∧ (parseMethodDescriptor (xnm 37).desc).map (fun d => d.parameters.length) = some 0 := by decide +kernel
theorem ns_37 : (xnm 37).name ≠ "<init>" ∧ (parseMethodDescriptor (xnm 37).desc).map (fun d => d.parameters.length) = some 0 := by decide +kernel
theorem cw_38 : xcw 38 = Cond.code (xnm 38) cX8_hasEdgeTo 4 (some .boolean) := rfl
theorem cm_38 : xcw 38 ∈ xWds := xW1 (List.mem_of_getElem? (i := 583) (by decide +kernel)) (by decide +kernel)
theorem ini_38 : Cond.initialized (xnm 38).cls ∈ xWds := xW1 (List.mem_of_getElem? (i := 16) (by decide +kernel)) (by decide +kernel)
theorem in_38 : Cond.instanceMethod (xnm 38) ∈ xWds := xW1 (List.mem_of_getElem? (i := 581) (by decide +kernel)) (by decide +kernel)
theorem sel_38 : Cond.selects (xnm 38).cls (xnm 38) (xnm 38) ∈ xWds := xW1 (List.mem_of_getElem? (i := 582) (by decide +kernel)) (by decide +kernel)
theorem nm_38 : (xnm 38).cls ≠ "java/lang/invoke/MethodHandle" ∧ (xnm 38).cls ≠ "java/lang/invoke/VarHandle" ∧ (parseMethodDescriptor (xnm 38).desc).map (fun d => d.parameters.length) = some 1 := by decide +kernel
theorem ns_38 : (xnm 38).name ≠ "<init>" ∧ (parseMethodDescriptor (xnm 38).desc).map (fun d => d.parameters.length) = some 1 := by decide +kernel
theorem cw_39 : xcw 39 = Cond.code (xnm 39) cX8_countPaid 4 (some .int) := rfl
theorem cm_39 : xcw 39 ∈ xWds := xW1 (List.mem_of_getElem? (i := 977) (by decide +kernel)) (by decide +kernel)
theorem ini_39 : Cond.initialized (xnm 39).cls ∈ xWds := xW1 (List.mem_of_getElem? (i := 16) (by decide +kernel)) (by decide +kernel)
theorem in_39 : Cond.instanceMethod (xnm 39) ∈ xWds := xW1 (List.mem_of_getElem? (i := 975) (by decide +kernel)) (by decide +kernel)
theorem sel_39 : Cond.selects (xnm 39).cls (xnm 39) (xnm 39) ∈ xWds := xW1 (List.mem_of_getElem? (i := 976) (by decide +kernel)) (by decide +kernel)
theorem nm_39 : (xnm 39).cls ≠ "java/lang/invoke/MethodHandle" ∧ (xnm 39).cls ≠ "java/lang/invoke/VarHandle" ∧ (parseMethodDescriptor (xnm 39).desc).map (fun d => d.parameters.length) = some 1 := by decide +kernel
theorem ns_39 : (xnm 39).name ≠ "<init>" ∧ (parseMethodDescriptor (xnm 39).desc).map (fun d => d.parameters.length) = some 1 := by decide +kernel
theorem cw_40 : xcw 40 = Cond.code (xnm 40) cX9_init 4 none := rfl
theorem cm_40 : xcw 40 ∈ xWds := xW1 (List.mem_of_getElem? (i := 348) (by decide +kernel)) (by decide +kernel)
theorem ini_40 : Cond.initialized (xnm 40).cls ∈ xWds := xW1 (List.mem_of_getElem? (i := 15) (by decide +kernel)) (by decide +kernel)
theorem in_40 : Cond.instanceMethod (xnm 40) ∈ xWds := xW1 (List.mem_of_getElem? (i := 347) (by decide +kernel)) (by decide +kernel)
theorem nm_40 : (xnm 40).cls ≠ "java/lang/invoke/MethodHandle" ∧ (xnm 40).cls ≠ "java/lang/invoke/VarHandle" ∧ (parseMethodDescriptor (xnm 40).desc).map (fun d => d.parameters.length) = some 2 := by decide +kernel
theorem cw_41 : xcw 41 = Cond.code (xnm 41) cX9_countStrips 1 (some .int) := rfl
theorem cm_41 : xcw 41 ∈ xWds := xW1 (List.mem_of_getElem? (i := 463) (by decide +kernel)) (by decide +kernel)
theorem ini_41 : Cond.initialized (xnm 41).cls ∈ xWds := xW1 (List.mem_of_getElem? (i := 15) (by decide +kernel)) (by decide +kernel)
theorem in_41 : Cond.instanceMethod (xnm 41) ∈ xWds := xW1 (List.mem_of_getElem? (i := 461) (by decide +kernel)) (by decide +kernel)
theorem sel_41 : Cond.selects (xnm 41).cls (xnm 41) (xnm 41) ∈ xWds := xW1 (List.mem_of_getElem? (i := 462) (by decide +kernel)) (by decide +kernel)
theorem nm_41 : (xnm 41).cls ≠ "java/lang/invoke/MethodHandle" ∧ (xnm 41).cls ≠ "java/lang/invoke/VarHandle" ∧ (parseMethodDescriptor (xnm 41).desc).map (fun d => d.parameters.length) = some 0 := by decide +kernel
theorem ns_41 : (xnm 41).name ≠ "<init>" ∧ (parseMethodDescriptor (xnm 41).desc).map (fun d => d.parameters.length) = some 0 := by decide +kernel
theorem cw_42 : xcw 42 = Cond.code (xnm 42) cX9_stripAt 2 (some (.object "Stuccohand$Strip")) := rfl
theorem cm_42 : xcw 42 ∈ xWds := xW1 (List.mem_of_getElem? (i := 231) (by decide +kernel)) (by decide +kernel)
theorem ini_42 : Cond.initialized (xnm 42).cls ∈ xWds := xW1 (List.mem_of_getElem? (i := 15) (by decide +kernel)) (by decide +kernel)
theorem in_42 : Cond.instanceMethod (xnm 42) ∈ xWds := xW1 (List.mem_of_getElem? (i := 229) (by decide +kernel)) (by decide +kernel)
theorem sel_42 : Cond.selects (xnm 42).cls (xnm 42) (xnm 42) ∈ xWds := xW1 (List.mem_of_getElem? (i := 230) (by decide +kernel)) (by decide +kernel)
theorem nm_42 : (xnm 42).cls ≠ "java/lang/invoke/MethodHandle" ∧ (xnm 42).cls ≠ "java/lang/invoke/VarHandle" ∧ (parseMethodDescriptor (xnm 42).desc).map (fun d => d.parameters.length) = some 1 := by decide +kernel
theorem ns_42 : (xnm 42).name ≠ "<init>" ∧ (parseMethodDescriptor (xnm 42).desc).map (fun d => d.parameters.length) = some 1 := by decide +kernel
theorem cw_43 : xcw 43 = Cond.code (xnm 43) cX9_takes 6 (some .boolean) := rfl
theorem cm_43 : xcw 43 ∈ xWds := xW1 (List.mem_of_getElem? (i := 485) (by decide +kernel)) (by decide +kernel)
theorem ini_43 : Cond.initialized (xnm 43).cls ∈ xWds := xW1 (List.mem_of_getElem? (i := 15) (by decide +kernel)) (by decide +kernel)
theorem in_43 : Cond.instanceMethod (xnm 43) ∈ xWds := xW1 (List.mem_of_getElem? (i := 483) (by decide +kernel)) (by decide +kernel)
theorem sel_43 : Cond.selects (xnm 43).cls (xnm 43) (xnm 43) ∈ xWds := xW1 (List.mem_of_getElem? (i := 484) (by decide +kernel)) (by decide +kernel)
theorem nm_43 : (xnm 43).cls ≠ "java/lang/invoke/MethodHandle" ∧ (xnm 43).cls ≠ "java/lang/invoke/VarHandle" ∧ (parseMethodDescriptor (xnm 43).desc).map (fun d => d.parameters.length) = some 3 := by decide +kernel
theorem ns_43 : (xnm 43).name ≠ "<init>" ∧ (parseMethodDescriptor (xnm 43).desc).map (fun d => d.parameters.length) = some 3 := by decide +kernel
theorem cw_44 : xcw 44 = Cond.code (xnm 44) cX9_hasUnplannedEdge 5 (some .boolean) := rfl
theorem cm_44 : xcw 44 ∈ xWds := xW1 (List.mem_of_getElem? (i := 579) (by decide +kernel)) (by decide +kernel)
theorem ini_44 : Cond.initialized (xnm 44).cls ∈ xWds := xW1 (List.mem_of_getElem? (i := 15) (by decide +kernel)) (by decide +kernel)
theorem in_44 : Cond.instanceMethod (xnm 44) ∈ xWds := xW1 (List.mem_of_getElem? (i := 578) (by decide +kernel)) (by decide +kernel)
theorem sel_44 : Cond.selects (xnm 44).cls (xnm 44) (xnm 44) ∈ xWds := xWds_in (List.mem_append_left _ (List.mem_of_getElem? (i := 9) (by decide +kernel))) (by decide +kernel)
theorem nm_44 : (xnm 44).cls ≠ "java/lang/invoke/MethodHandle" ∧ (xnm 44).cls ≠ "java/lang/invoke/VarHandle" ∧ (parseMethodDescriptor (xnm 44).desc).map (fun d => d.parameters.length) = some 1 := by decide +kernel
theorem ns_44 : (xnm 44).name ≠ "<init>" ∧ (parseMethodDescriptor (xnm 44).desc).map (fun d => d.parameters.length) = some 1 := by decide +kernel
theorem cw_45 : xcw 45 = Cond.code (xnm 45) cX9_layCoat 10 (some .int) := rfl
theorem cm_45 : xcw 45 ∈ xWds := xW1 (List.mem_of_getElem? (i := 526) (by decide +kernel)) (by decide +kernel)
theorem ini_45 : Cond.initialized (xnm 45).cls ∈ xWds := xW1 (List.mem_of_getElem? (i := 15) (by decide +kernel)) (by decide +kernel)
theorem in_45 : Cond.instanceMethod (xnm 45) ∈ xWds := xW1 (List.mem_of_getElem? (i := 524) (by decide +kernel)) (by decide +kernel)
theorem sel_45 : Cond.selects (xnm 45).cls (xnm 45) (xnm 45) ∈ xWds := xW1 (List.mem_of_getElem? (i := 525) (by decide +kernel)) (by decide +kernel)
theorem nm_45 : (xnm 45).cls ≠ "java/lang/invoke/MethodHandle" ∧ (xnm 45).cls ≠ "java/lang/invoke/VarHandle" ∧ (parseMethodDescriptor (xnm 45).desc).map (fun d => d.parameters.length) = some 5 := by decide +kernel
theorem ns_45 : (xnm 45).name ≠ "<init>" ∧ (parseMethodDescriptor (xnm 45).desc).map (fun d => d.parameters.length) = some 5 := by decide +kernel
theorem cw_46 : xcw 46 = Cond.code (xnm 46) cX9_isCoatedOn 7 (some .boolean) := rfl
theorem cm_46 : xcw 46 ∈ xWds := xW1 (List.mem_of_getElem? (i := 595) (by decide +kernel)) (by decide +kernel)
theorem ini_46 : Cond.initialized (xnm 46).cls ∈ xWds := xW1 (List.mem_of_getElem? (i := 15) (by decide +kernel)) (by decide +kernel)
theorem in_46 : Cond.instanceMethod (xnm 46) ∈ xWds := xW1 (List.mem_of_getElem? (i := 593) (by decide +kernel)) (by decide +kernel)
theorem sel_46 : Cond.selects (xnm 46).cls (xnm 46) (xnm 46) ∈ xWds := xW1 (List.mem_of_getElem? (i := 594) (by decide +kernel)) (by decide +kernel)
theorem nm_46 : (xnm 46).cls ≠ "java/lang/invoke/MethodHandle" ∧ (xnm 46).cls ≠ "java/lang/invoke/VarHandle" ∧ (parseMethodDescriptor (xnm 46).desc).map (fun d => d.parameters.length) = some 3 := by decide +kernel
theorem ns_46 : (xnm 46).name ≠ "<init>" ∧ (parseMethodDescriptor (xnm 46).desc).map (fun d => d.parameters.length) = some 3 := by decide +kernel
theorem cw_47 : xcw 47 = Cond.code (xnm 47) cX9_scratchTops 7 (some .int) := rfl
theorem cm_47 : xcw 47 ∈ xWds := xW1 (List.mem_of_getElem? (i := 600) (by decide +kernel)) (by decide +kernel)
theorem ini_47 : Cond.initialized (xnm 47).cls ∈ xWds := xW1 (List.mem_of_getElem? (i := 15) (by decide +kernel)) (by decide +kernel)
theorem in_47 : Cond.instanceMethod (xnm 47) ∈ xWds := xW1 (List.mem_of_getElem? (i := 598) (by decide +kernel)) (by decide +kernel)
theorem sel_47 : Cond.selects (xnm 47).cls (xnm 47) (xnm 47) ∈ xWds := xW1 (List.mem_of_getElem? (i := 599) (by decide +kernel)) (by decide +kernel)
theorem nm_47 : (xnm 47).cls ≠ "java/lang/invoke/MethodHandle" ∧ (xnm 47).cls ≠ "java/lang/invoke/VarHandle" ∧ (parseMethodDescriptor (xnm 47).desc).map (fun d => d.parameters.length) = some 2 := by decide +kernel
theorem ns_47 : (xnm 47).name ≠ "<init>" ∧ (parseMethodDescriptor (xnm 47).desc).map (fun d => d.parameters.length) = some 2 := by decide +kernel
theorem cw_48 : xcw 48 = Cond.code (xnm 48) cX9_dryFor 8 (some .int) := rfl
theorem cm_48 : xcw 48 ∈ xWds := xW1 (List.mem_of_getElem? (i := 629) (by decide +kernel)) (by decide +kernel)
theorem ini_48 : Cond.initialized (xnm 48).cls ∈ xWds := xW1 (List.mem_of_getElem? (i := 15) (by decide +kernel)) (by decide +kernel)
theorem in_48 : Cond.instanceMethod (xnm 48) ∈ xWds := xW1 (List.mem_of_getElem? (i := 627) (by decide +kernel)) (by decide +kernel)
theorem sel_48 : Cond.selects (xnm 48).cls (xnm 48) (xnm 48) ∈ xWds := xW1 (List.mem_of_getElem? (i := 628) (by decide +kernel)) (by decide +kernel)
theorem nm_48 : (xnm 48).cls ≠ "java/lang/invoke/MethodHandle" ∧ (xnm 48).cls ≠ "java/lang/invoke/VarHandle" ∧ (parseMethodDescriptor (xnm 48).desc).map (fun d => d.parameters.length) = some 3 := by decide +kernel
theorem ns_48 : (xnm 48).name ≠ "<init>" ∧ (parseMethodDescriptor (xnm 48).desc).map (fun d => d.parameters.length) = some 3 := by decide +kernel
theorem cw_49 : xcw 49 = Cond.code (xnm 49) cX9_countPaid 4 (some .int) := rfl
theorem cm_49 : xcw 49 ∈ xWds := xW1 (List.mem_of_getElem? (i := 973) (by decide +kernel)) (by decide +kernel)
theorem ini_49 : Cond.initialized (xnm 49).cls ∈ xWds := xW1 (List.mem_of_getElem? (i := 15) (by decide +kernel)) (by decide +kernel)
theorem in_49 : Cond.instanceMethod (xnm 49) ∈ xWds := xW1 (List.mem_of_getElem? (i := 971) (by decide +kernel)) (by decide +kernel)
theorem sel_49 : Cond.selects (xnm 49).cls (xnm 49) (xnm 49) ∈ xWds := xW1 (List.mem_of_getElem? (i := 972) (by decide +kernel)) (by decide +kernel)
theorem nm_49 : (xnm 49).cls ≠ "java/lang/invoke/MethodHandle" ∧ (xnm 49).cls ≠ "java/lang/invoke/VarHandle" ∧ (parseMethodDescriptor (xnm 49).desc).map (fun d => d.parameters.length) = some 1 := by decide +kernel
theorem ns_49 : (xnm 49).name ≠ "<init>" ∧ (parseMethodDescriptor (xnm 49).desc).map (fun d => d.parameters.length) = some 1 := by decide +kernel
theorem cw_50 : xcw 50 = Cond.code (xnm 50) cX10_init 1 none := rfl
theorem cm_50 : xcw 50 ∈ xWds := xW1 (List.mem_of_getElem? (i := 39) (by decide +kernel)) (by decide +kernel)
theorem ini_50 : Cond.initialized (xnm 50).cls ∈ xWds := xW1 (List.mem_of_getElem? (i := 1) (by decide +kernel)) (by decide +kernel)
theorem in_50 : Cond.instanceMethod (xnm 50) ∈ xWds := xW1 (List.mem_of_getElem? (i := 38) (by decide +kernel)) (by decide +kernel)
theorem nm_50 : (xnm 50).cls ≠ "java/lang/invoke/MethodHandle" ∧ (xnm 50).cls ≠ "java/lang/invoke/VarHandle" ∧ (parseMethodDescriptor (xnm 50).desc).map (fun d => d.parameters.length) = some 0 := by decide +kernel
theorem cw_51 : xcw 51 = Cond.code (xnm 51) cX10_wall 3 (some .int) := rfl
theorem cm_51 : xcw 51 ∈ xWds := xW1 (List.mem_of_getElem? (i := 324) (by decide +kernel)) (by decide +kernel)
theorem ini_51 : Cond.initialized (xnm 51).cls ∈ xWds := xW1 (List.mem_of_getElem? (i := 1) (by decide +kernel)) (by decide +kernel)
theorem in_51 : Cond.instanceMethod (xnm 51) ∈ xWds := xW1 (List.mem_of_getElem? (i := 322) (by decide +kernel)) (by decide +kernel)
theorem sel_51 : Cond.selects (xnm 51).cls (xnm 51) (xnm 51) ∈ xWds := xW1 (List.mem_of_getElem? (i := 323) (by decide +kernel)) (by decide +kernel)
theorem nm_51 : (xnm 51).cls ≠ "java/lang/invoke/MethodHandle" ∧ (xnm 51).cls ≠ "java/lang/invoke/VarHandle" ∧ (parseMethodDescriptor (xnm 51).desc).map (fun d => d.parameters.length) = some 2 := by decide +kernel
theorem ns_51 : (xnm 51).name ≠ "<init>" ∧ (parseMethodDescriptor (xnm 51).desc).map (fun d => d.parameters.length) = some 2 := by decide +kernel
theorem cw_52 : xcw 52 = Cond.code (xnm 52) cX10_weather 3 none := rfl
theorem cm_52 : xcw 52 ∈ xWds := xW1 (List.mem_of_getElem? (i := 448) (by decide +kernel)) (by decide +kernel)
theorem ini_52 : Cond.initialized (xnm 52).cls ∈ xWds := xW1 (List.mem_of_getElem? (i := 1) (by decide +kernel)) (by decide +kernel)
theorem in_52 : Cond.instanceMethod (xnm 52) ∈ xWds := xW1 (List.mem_of_getElem? (i := 446) (by decide +kernel)) (by decide +kernel)
theorem sel_52 : Cond.selects (xnm 52).cls (xnm 52) (xnm 52) ∈ xWds := xW1 (List.mem_of_getElem? (i := 447) (by decide +kernel)) (by decide +kernel)
theorem nm_52 : (xnm 52).cls ≠ "java/lang/invoke/MethodHandle" ∧ (xnm 52).cls ≠ "java/lang/invoke/VarHandle" ∧ (parseMethodDescriptor (xnm 52).desc).map (fun d => d.parameters.length) = some 2 := by decide +kernel
theorem ns_52 : (xnm 52).name ≠ "<init>" ∧ (parseMethodDescriptor (xnm 52).desc).map (fun d => d.parameters.length) = some 2 := by decide +kernel
theorem cw_53 : xcw 53 = Cond.code (xnm 53) cX10_wallNumbered 2 (some (.object "Stuccohand$Wall")) := rfl
theorem cm_53 : xcw 53 ∈ xWds := xW1 (List.mem_of_getElem? (i := 140) (by decide +kernel)) (by decide +kernel)
theorem ini_53 : Cond.initialized (xnm 53).cls ∈ xWds := xW1 (List.mem_of_getElem? (i := 1) (by decide +kernel)) (by decide +kernel)
theorem in_53 : Cond.instanceMethod (xnm 53) ∈ xWds := xW1 (List.mem_of_getElem? (i := 139) (by decide +kernel)) (by decide +kernel)
theorem sel_53 : Cond.selects (xnm 53).cls (xnm 53) (xnm 53) ∈ xWds := xWds_in (List.mem_append_left _ (List.mem_of_getElem? (i := 2) (by decide +kernel))) (by decide +kernel)
theorem nm_53 : (xnm 53).cls ≠ "java/lang/invoke/MethodHandle" ∧ (xnm 53).cls ≠ "java/lang/invoke/VarHandle" ∧ (parseMethodDescriptor (xnm 53).desc).map (fun d => d.parameters.length) = some 1 := by decide +kernel
theorem ns_53 : (xnm 53).name ≠ "<init>" ∧ (parseMethodDescriptor (xnm 53).desc).map (fun d => d.parameters.length) = some 1 := by decide +kernel
theorem cw_54 : xcw 54 = Cond.code (xnm 54) cX10_damp 5 (some .int) := rfl
theorem cm_54 : xcw 54 ∈ xWds := xW1 (List.mem_of_getElem? (i := 454) (by decide +kernel)) (by decide +kernel)
theorem ini_54 : Cond.initialized (xnm 54).cls ∈ xWds := xW1 (List.mem_of_getElem? (i := 1) (by decide +kernel)) (by decide +kernel)
theorem in_54 : Cond.instanceMethod (xnm 54) ∈ xWds := xW1 (List.mem_of_getElem? (i := 452) (by decide +kernel)) (by decide +kernel)
theorem sel_54 : Cond.selects (xnm 54).cls (xnm 54) (xnm 54) ∈ xWds := xW1 (List.mem_of_getElem? (i := 453) (by decide +kernel)) (by decide +kernel)
theorem nm_54 : (xnm 54).cls ≠ "java/lang/invoke/MethodHandle" ∧ (xnm 54).cls ≠ "java/lang/invoke/VarHandle" ∧ (parseMethodDescriptor (xnm 54).desc).map (fun d => d.parameters.length) = some 2 := by decide +kernel
theorem ns_54 : (xnm 54).name ≠ "<init>" ∧ (parseMethodDescriptor (xnm 54).desc).map (fun d => d.parameters.length) = some 2 := by decide +kernel
theorem cw_55 : xcw 55 = Cond.code (xnm 55) cX10_joint 6 (some .boolean) := rfl
theorem cm_55 : xcw 55 ∈ xWds := xW1 (List.mem_of_getElem? (i := 459) (by decide +kernel)) (by decide +kernel)
theorem ini_55 : Cond.initialized (xnm 55).cls ∈ xWds := xW1 (List.mem_of_getElem? (i := 1) (by decide +kernel)) (by decide +kernel)
theorem in_55 : Cond.instanceMethod (xnm 55) ∈ xWds := xW1 (List.mem_of_getElem? (i := 457) (by decide +kernel)) (by decide +kernel)
theorem sel_55 : Cond.selects (xnm 55).cls (xnm 55) (xnm 55) ∈ xWds := xW1 (List.mem_of_getElem? (i := 458) (by decide +kernel)) (by decide +kernel)
theorem nm_55 : (xnm 55).cls ≠ "java/lang/invoke/MethodHandle" ∧ (xnm 55).cls ≠ "java/lang/invoke/VarHandle" ∧ (parseMethodDescriptor (xnm 55).desc).map (fun d => d.parameters.length) = some 2 := by decide +kernel
theorem ns_55 : (xnm 55).name ≠ "<init>" ∧ (parseMethodDescriptor (xnm 55).desc).map (fun d => d.parameters.length) = some 2 := by decide +kernel
theorem cw_56 : xcw 56 = Cond.code (xnm 56) cX10_testStrips 3 none := rfl
theorem cm_56 : xcw 56 ∈ xWds := xW1 (List.mem_of_getElem? (i := 471) (by decide +kernel)) (by decide +kernel)
theorem ini_56 : Cond.initialized (xnm 56).cls ∈ xWds := xW1 (List.mem_of_getElem? (i := 1) (by decide +kernel)) (by decide +kernel)
theorem st_56 : Cond.static (xnm 56) ∈ xWds := xW1 (List.mem_of_getElem? (i := 470) (by decide +kernel)) (by decide +kernel)
theorem nm_56 : (xnm 56).cls ≠ "java/lang/invoke/MethodHandle" ∧ (xnm 56).cls ≠ "java/lang/invoke/VarHandle" ∧ (parseMethodDescriptor (xnm 56).desc).map (fun d => d.parameters.length) = some 3 := by decide +kernel
theorem ns_56 : (xnm 56).name ≠ "<init>" ∧ (parseMethodDescriptor (xnm 56).desc).map (fun d => d.parameters.length) = some 3 := by decide +kernel
theorem cw_57 : xcw 57 = Cond.code (xnm 57) cX10_coat 8 (some .int) := rfl
theorem cm_57 : xcw 57 ∈ xWds := xW1 (List.mem_of_getElem? (i := 468) (by decide +kernel)) (by decide +kernel)
theorem ini_57 : Cond.initialized (xnm 57).cls ∈ xWds := xW1 (List.mem_of_getElem? (i := 1) (by decide +kernel)) (by decide +kernel)
theorem in_57 : Cond.instanceMethod (xnm 57) ∈ xWds := xW1 (List.mem_of_getElem? (i := 466) (by decide +kernel)) (by decide +kernel)
theorem sel_57 : Cond.selects (xnm 57).cls (xnm 57) (xnm 57) ∈ xWds := xW1 (List.mem_of_getElem? (i := 467) (by decide +kernel)) (by decide +kernel)
theorem nm_57 : (xnm 57).cls ≠ "java/lang/invoke/MethodHandle" ∧ (xnm 57).cls ≠ "java/lang/invoke/VarHandle" ∧ (parseMethodDescriptor (xnm 57).desc).map (fun d => d.parameters.length) = some 5 := by decide +kernel
theorem ns_57 : (xnm 57).name ≠ "<init>" ∧ (parseMethodDescriptor (xnm 57).desc).map (fun d => d.parameters.length) = some 5 := by decide +kernel
theorem cw_58 : xcw 58 = Cond.code (xnm 58) cX10_scratch 5 (some .int) := rfl
theorem cm_58 : xcw 58 ∈ xWds := xW1 (List.mem_of_getElem? (i := 591) (by decide +kernel)) (by decide +kernel)
theorem ini_58 : Cond.initialized (xnm 58).cls ∈ xWds := xW1 (List.mem_of_getElem? (i := 1) (by decide +kernel)) (by decide +kernel)
theorem in_58 : Cond.instanceMethod (xnm 58) ∈ xWds := xW1 (List.mem_of_getElem? (i := 589) (by decide +kernel)) (by decide +kernel)
theorem sel_58 : Cond.selects (xnm 58).cls (xnm 58) (xnm 58) ∈ xWds := xW1 (List.mem_of_getElem? (i := 590) (by decide +kernel)) (by decide +kernel)
theorem nm_58 : (xnm 58).cls ≠ "java/lang/invoke/MethodHandle" ∧ (xnm 58).cls ≠ "java/lang/invoke/VarHandle" ∧ (parseMethodDescriptor (xnm 58).desc).map (fun d => d.parameters.length) = some 3 := by decide +kernel
theorem ns_58 : (xnm 58).name ≠ "<init>" ∧ (parseMethodDescriptor (xnm 58).desc).map (fun d => d.parameters.length) = some 3 := by decide +kernel
theorem cw_59 : xcw 59 = Cond.code (xnm 59) cX10_stripNumbered 4 (some (.object "Stuccohand$Strip")) := rfl
theorem cm_59 : xcw 59 ∈ xWds := xW1 (List.mem_of_getElem? (i := 136) (by decide +kernel)) (by decide +kernel)
theorem ini_59 : Cond.initialized (xnm 59).cls ∈ xWds := xW1 (List.mem_of_getElem? (i := 1) (by decide +kernel)) (by decide +kernel)
theorem in_59 : Cond.instanceMethod (xnm 59) ∈ xWds := xW1 (List.mem_of_getElem? (i := 135) (by decide +kernel)) (by decide +kernel)
theorem sel_59 : Cond.selects (xnm 59).cls (xnm 59) (xnm 59) ∈ xWds := xWds_in (List.mem_append_left _ (List.mem_of_getElem? (i := 1) (by decide +kernel))) (by decide +kernel)
theorem nm_59 : (xnm 59).cls ≠ "java/lang/invoke/MethodHandle" ∧ (xnm 59).cls ≠ "java/lang/invoke/VarHandle" ∧ (parseMethodDescriptor (xnm 59).desc).map (fun d => d.parameters.length) = some 2 := by decide +kernel
theorem ns_59 : (xnm 59).name ≠ "<init>" ∧ (parseMethodDescriptor (xnm 59).desc).map (fun d => d.parameters.length) = some 2 := by decide +kernel
theorem cw_60 : xcw 60 = Cond.code (xnm 60) cX10_strike 4 (some .int) := rfl
theorem cm_60 : xcw 60 ∈ xWds := xW1 (List.mem_of_getElem? (i := 604) (by decide +kernel)) (by decide +kernel)
theorem ini_60 : Cond.initialized (xnm 60).cls ∈ xWds := xW1 (List.mem_of_getElem? (i := 1) (by decide +kernel)) (by decide +kernel)
theorem in_60 : Cond.instanceMethod (xnm 60) ∈ xWds := xW1 (List.mem_of_getElem? (i := 602) (by decide +kernel)) (by decide +kernel)
theorem sel_60 : Cond.selects (xnm 60).cls (xnm 60) (xnm 60) ∈ xWds := xW1 (List.mem_of_getElem? (i := 603) (by decide +kernel)) (by decide +kernel)
theorem nm_60 : (xnm 60).cls ≠ "java/lang/invoke/MethodHandle" ∧ (xnm 60).cls ≠ "java/lang/invoke/VarHandle" ∧ (parseMethodDescriptor (xnm 60).desc).map (fun d => d.parameters.length) = some 2 := by decide +kernel
theorem ns_60 : (xnm 60).name ≠ "<init>" ∧ (parseMethodDescriptor (xnm 60).desc).map (fun d => d.parameters.length) = some 2 := by decide +kernel
theorem cw_61 : xcw 61 = Cond.code (xnm 61) cX10_pass 4 (some .int) := rfl
theorem cm_61 : xcw 61 ∈ xWds := xW1 (List.mem_of_getElem? (i := 623) (by decide +kernel)) (by decide +kernel)
theorem ini_61 : Cond.initialized (xnm 61).cls ∈ xWds := xW1 (List.mem_of_getElem? (i := 1) (by decide +kernel)) (by decide +kernel)
theorem in_61 : Cond.instanceMethod (xnm 61) ∈ xWds := xW1 (List.mem_of_getElem? (i := 621) (by decide +kernel)) (by decide +kernel)
theorem sel_61 : Cond.selects (xnm 61).cls (xnm 61) (xnm 61) ∈ xWds := xW1 (List.mem_of_getElem? (i := 622) (by decide +kernel)) (by decide +kernel)
theorem nm_61 : (xnm 61).cls ≠ "java/lang/invoke/MethodHandle" ∧ (xnm 61).cls ≠ "java/lang/invoke/VarHandle" ∧ (parseMethodDescriptor (xnm 61).desc).map (fun d => d.parameters.length) = some 1 := by decide +kernel
theorem ns_61 : (xnm 61).name ≠ "<init>" ∧ (parseMethodDescriptor (xnm 61).desc).map (fun d => d.parameters.length) = some 1 := by decide +kernel
theorem cw_62 : xcw 62 = Cond.code (xnm 62) cX10_coatNumbered 5 (some (.object "Stuccohand$Coat")) := rfl
theorem cm_62 : xcw 62 ∈ xWds := xW1 (List.mem_of_getElem? (i := 132) (by decide +kernel)) (by decide +kernel)
theorem ini_62 : Cond.initialized (xnm 62).cls ∈ xWds := xW1 (List.mem_of_getElem? (i := 1) (by decide +kernel)) (by decide +kernel)
theorem in_62 : Cond.instanceMethod (xnm 62) ∈ xWds := xW1 (List.mem_of_getElem? (i := 131) (by decide +kernel)) (by decide +kernel)
theorem sel_62 : Cond.selects (xnm 62).cls (xnm 62) (xnm 62) ∈ xWds := xWds_in (List.mem_append_left _ (List.mem_of_getElem? (i := 0) (by decide +kernel))) (by decide +kernel)
theorem nm_62 : (xnm 62).cls ≠ "java/lang/invoke/MethodHandle" ∧ (xnm 62).cls ≠ "java/lang/invoke/VarHandle" ∧ (parseMethodDescriptor (xnm 62).desc).map (fun d => d.parameters.length) = some 3 := by decide +kernel
theorem ns_62 : (xnm 62).name ≠ "<init>" ∧ (parseMethodDescriptor (xnm 62).desc).map (fun d => d.parameters.length) = some 3 := by decide +kernel
theorem cw_63 : xcw 63 = Cond.code (xnm 63) cX10_ofCoat 6 (some .int) := rfl
theorem cm_63 : xcw 63 ∈ xWds := xW1 (List.mem_of_getElem? (i := 128) (by decide +kernel)) (by decide +kernel)
theorem ini_63 : Cond.initialized (xnm 63).cls ∈ xWds := xW1 (List.mem_of_getElem? (i := 1) (by decide +kernel)) (by decide +kernel)
theorem in_63 : Cond.instanceMethod (xnm 63) ∈ xWds := xW1 (List.mem_of_getElem? (i := 126) (by decide +kernel)) (by decide +kernel)
theorem sel_63 : Cond.selects (xnm 63).cls (xnm 63) (xnm 63) ∈ xWds := xW1 (List.mem_of_getElem? (i := 127) (by decide +kernel)) (by decide +kernel)
theorem nm_63 : (xnm 63).cls ≠ "java/lang/invoke/MethodHandle" ∧ (xnm 63).cls ≠ "java/lang/invoke/VarHandle" ∧ (parseMethodDescriptor (xnm 63).desc).map (fun d => d.parameters.length) = some 4 := by decide +kernel
theorem ns_63 : (xnm 63).name ≠ "<init>" ∧ (parseMethodDescriptor (xnm 63).desc).map (fun d => d.parameters.length) = some 4 := by decide +kernel
theorem cw_64 : xcw 64 = Cond.code (xnm 64) cX10_coatsAnew 3 (some .int) := rfl
theorem cm_64 : xcw 64 ∈ xWds := xW1 (List.mem_of_getElem? (i := 641) (by decide +kernel)) (by decide +kernel)
theorem ini_64 : Cond.initialized (xnm 64).cls ∈ xWds := xW1 (List.mem_of_getElem? (i := 1) (by decide +kernel)) (by decide +kernel)
theorem in_64 : Cond.instanceMethod (xnm 64) ∈ xWds := xW1 (List.mem_of_getElem? (i := 639) (by decide +kernel)) (by decide +kernel)
theorem sel_64 : Cond.selects (xnm 64).cls (xnm 64) (xnm 64) ∈ xWds := xW1 (List.mem_of_getElem? (i := 640) (by decide +kernel)) (by decide +kernel)
theorem nm_64 : (xnm 64).cls ≠ "java/lang/invoke/MethodHandle" ∧ (xnm 64).cls ≠ "java/lang/invoke/VarHandle" ∧ (parseMethodDescriptor (xnm 64).desc).map (fun d => d.parameters.length) = some 2 := by decide +kernel
theorem ns_64 : (xnm 64).name ≠ "<init>" ∧ (parseMethodDescriptor (xnm 64).desc).map (fun d => d.parameters.length) = some 2 := by decide +kernel
theorem cw_65 : xcw 65 = Cond.code (xnm 65) cX10_text 7 (some .char) := rfl
theorem cm_65 : xcw 65 ∈ xWds := xW1 (List.mem_of_getElem? (i := 654) (by decide +kernel)) (by decide +kernel)
theorem ini_65 : Cond.initialized (xnm 65).cls ∈ xWds := xW1 (List.mem_of_getElem? (i := 1) (by decide +kernel)) (by decide +kernel)
theorem in_65 : Cond.instanceMethod (xnm 65) ∈ xWds := xW1 (List.mem_of_getElem? (i := 652) (by decide +kernel)) (by decide +kernel)
theorem sel_65 : Cond.selects (xnm 65).cls (xnm 65) (xnm 65) ∈ xWds := xW1 (List.mem_of_getElem? (i := 653) (by decide +kernel)) (by decide +kernel)
theorem nm_65 : (xnm 65).cls ≠ "java/lang/invoke/MethodHandle" ∧ (xnm 65).cls ≠ "java/lang/invoke/VarHandle" ∧ (parseMethodDescriptor (xnm 65).desc).map (fun d => d.parameters.length) = some 4 := by decide +kernel
theorem ns_65 : (xnm 65).name ≠ "<init>" ∧ (parseMethodDescriptor (xnm 65).desc).map (fun d => d.parameters.length) = some 4 := by decide +kernel
theorem cw_66 : xcw 66 = Cond.code (xnm 66) cX10_testDepth 1 none := rfl
theorem cm_66 : xcw 66 ∈ xWds := xW1 (List.mem_of_getElem? (i := 868) (by decide +kernel)) (by decide +kernel)
theorem ini_66 : Cond.initialized (xnm 66).cls ∈ xWds := xW1 (List.mem_of_getElem? (i := 1) (by decide +kernel)) (by decide +kernel)
theorem st_66 : Cond.static (xnm 66) ∈ xWds := xW1 (List.mem_of_getElem? (i := 867) (by decide +kernel)) (by decide +kernel)
theorem nm_66 : (xnm 66).cls ≠ "java/lang/invoke/MethodHandle" ∧ (xnm 66).cls ≠ "java/lang/invoke/VarHandle" ∧ (parseMethodDescriptor (xnm 66).desc).map (fun d => d.parameters.length) = some 1 := by decide +kernel
theorem ns_66 : (xnm 66).name ≠ "<init>" ∧ (parseMethodDescriptor (xnm 66).desc).map (fun d => d.parameters.length) = some 1 := by decide +kernel
theorem cw_67 : xcw 67 = Cond.code (xnm 67) cX10_profile 2 (some .int) := rfl
theorem cm_67 : xcw 67 ∈ xWds := xW1 (List.mem_of_getElem? (i := 865) (by decide +kernel)) (by decide +kernel)
theorem ini_67 : Cond.initialized (xnm 67).cls ∈ xWds := xW1 (List.mem_of_getElem? (i := 1) (by decide +kernel)) (by decide +kernel)
theorem in_67 : Cond.instanceMethod (xnm 67) ∈ xWds := xW1 (List.mem_of_getElem? (i := 863) (by decide +kernel)) (by decide +kernel)
theorem sel_67 : Cond.selects (xnm 67).cls (xnm 67) (xnm 67) ∈ xWds := xW1 (List.mem_of_getElem? (i := 864) (by decide +kernel)) (by decide +kernel)
theorem nm_67 : (xnm 67).cls ≠ "java/lang/invoke/MethodHandle" ∧ (xnm 67).cls ≠ "java/lang/invoke/VarHandle" ∧ (parseMethodDescriptor (xnm 67).desc).map (fun d => d.parameters.length) = some 1 := by decide +kernel
theorem ns_67 : (xnm 67).name ≠ "<init>" ∧ (parseMethodDescriptor (xnm 67).desc).map (fun d => d.parameters.length) = some 1 := by decide +kernel
theorem cw_68 : xcw 68 = Cond.code (xnm 68) cX10_profileNumbered 2 (some (.object "Stuccohand$Profile")) := rfl
theorem cm_68 : xcw 68 ∈ xWds := xW1 (List.mem_of_getElem? (i := 891) (by decide +kernel)) (by decide +kernel)
theorem ini_68 : Cond.initialized (xnm 68).cls ∈ xWds := xW1 (List.mem_of_getElem? (i := 1) (by decide +kernel)) (by decide +kernel)
theorem in_68 : Cond.instanceMethod (xnm 68) ∈ xWds := xW1 (List.mem_of_getElem? (i := 890) (by decide +kernel)) (by decide +kernel)
theorem sel_68 : Cond.selects (xnm 68).cls (xnm 68) (xnm 68) ∈ xWds := xWds_in (List.mem_append_left _ (List.mem_of_getElem? (i := 11) (by decide +kernel))) (by decide +kernel)
theorem nm_68 : (xnm 68).cls ≠ "java/lang/invoke/MethodHandle" ∧ (xnm 68).cls ≠ "java/lang/invoke/VarHandle" ∧ (parseMethodDescriptor (xnm 68).desc).map (fun d => d.parameters.length) = some 1 := by decide +kernel
theorem ns_68 : (xnm 68).name ≠ "<init>" ∧ (parseMethodDescriptor (xnm 68).desc).map (fun d => d.parameters.length) = some 1 := by decide +kernel
theorem cw_69 : xcw 69 = Cond.code (xnm 69) cX10_depth 4 (some .int) := rfl
theorem cm_69 : xcw 69 ∈ xWds := xW1 (List.mem_of_getElem? (i := 887) (by decide +kernel)) (by decide +kernel)
theorem ini_69 : Cond.initialized (xnm 69).cls ∈ xWds := xW1 (List.mem_of_getElem? (i := 1) (by decide +kernel)) (by decide +kernel)
theorem in_69 : Cond.instanceMethod (xnm 69) ∈ xWds := xW1 (List.mem_of_getElem? (i := 885) (by decide +kernel)) (by decide +kernel)
theorem sel_69 : Cond.selects (xnm 69).cls (xnm 69) (xnm 69) ∈ xWds := xW1 (List.mem_of_getElem? (i := 886) (by decide +kernel)) (by decide +kernel)
theorem nm_69 : (xnm 69).cls ≠ "java/lang/invoke/MethodHandle" ∧ (xnm 69).cls ≠ "java/lang/invoke/VarHandle" ∧ (parseMethodDescriptor (xnm 69).desc).map (fun d => d.parameters.length) = some 2 := by decide +kernel
theorem ns_69 : (xnm 69).name ≠ "<init>" ∧ (parseMethodDescriptor (xnm 69).desc).map (fun d => d.parameters.length) = some 2 := by decide +kernel
theorem cw_70 : xcw 70 = Cond.code (xnm 70) cX10_shareOf 3 (some .float) := rfl
theorem cm_70 : xcw 70 ∈ xWds := xW1 (List.mem_of_getElem? (i := 920) (by decide +kernel)) (by decide +kernel)
theorem ini_70 : Cond.initialized (xnm 70).cls ∈ xWds := xW1 (List.mem_of_getElem? (i := 1) (by decide +kernel)) (by decide +kernel)
theorem st_70 : Cond.static (xnm 70) ∈ xWds := xW1 (List.mem_of_getElem? (i := 919) (by decide +kernel)) (by decide +kernel)
theorem nm_70 : (xnm 70).cls ≠ "java/lang/invoke/MethodHandle" ∧ (xnm 70).cls ≠ "java/lang/invoke/VarHandle" ∧ (parseMethodDescriptor (xnm 70).desc).map (fun d => d.parameters.length) = some 2 := by decide +kernel
theorem ns_70 : (xnm 70).name ≠ "<init>" ∧ (parseMethodDescriptor (xnm 70).desc).map (fun d => d.parameters.length) = some 2 := by decide +kernel
theorem cw_71 : xcw 71 = Cond.code (xnm 71) cX10_mitre 11 (some .float) := rfl
theorem cm_71 : xcw 71 ∈ xWds := xW1 (List.mem_of_getElem? (i := 909) (by decide +kernel)) (by decide +kernel)
theorem ini_71 : Cond.initialized (xnm 71).cls ∈ xWds := xW1 (List.mem_of_getElem? (i := 1) (by decide +kernel)) (by decide +kernel)
theorem in_71 : Cond.instanceMethod (xnm 71) ∈ xWds := xW1 (List.mem_of_getElem? (i := 907) (by decide +kernel)) (by decide +kernel)
theorem sel_71 : Cond.selects (xnm 71).cls (xnm 71) (xnm 71) ∈ xWds := xW1 (List.mem_of_getElem? (i := 908) (by decide +kernel)) (by decide +kernel)
theorem nm_71 : (xnm 71).cls ≠ "java/lang/invoke/MethodHandle" ∧ (xnm 71).cls ≠ "java/lang/invoke/VarHandle" ∧ (parseMethodDescriptor (xnm 71).desc).map (fun d => d.parameters.length) = some 2 := by decide +kernel
theorem ns_71 : (xnm 71).name ≠ "<init>" ∧ (parseMethodDescriptor (xnm 71).desc).map (fun d => d.parameters.length) = some 2 := by decide +kernel
theorem cw_72 : xcw 72 = Cond.code (xnm 72) cX10_testRepeat 2 none := rfl
theorem cm_72 : xcw 72 ∈ xWds := xW1 (List.mem_of_getElem? (i := 928) (by decide +kernel)) (by decide +kernel)
theorem ini_72 : Cond.initialized (xnm 72).cls ∈ xWds := xW1 (List.mem_of_getElem? (i := 1) (by decide +kernel)) (by decide +kernel)
theorem st_72 : Cond.static (xnm 72) ∈ xWds := xW1 (List.mem_of_getElem? (i := 927) (by decide +kernel)) (by decide +kernel)
theorem nm_72 : (xnm 72).cls ≠ "java/lang/invoke/MethodHandle" ∧ (xnm 72).cls ≠ "java/lang/invoke/VarHandle" ∧ (parseMethodDescriptor (xnm 72).desc).map (fun d => d.parameters.length) = some 2 := by decide +kernel
theorem ns_72 : (xnm 72).name ≠ "<init>" ∧ (parseMethodDescriptor (xnm 72).desc).map (fun d => d.parameters.length) = some 2 := by decide +kernel
theorem cw_73 : xcw 73 = Cond.code (xnm 73) cX10_timesNearest 10 (some .int) := rfl
theorem cm_73 : xcw 73 ∈ xWds := xW1 (List.mem_of_getElem? (i := 934) (by decide +kernel)) (by decide +kernel)
theorem ini_73 : Cond.initialized (xnm 73).cls ∈ xWds := xW1 (List.mem_of_getElem? (i := 1) (by decide +kernel)) (by decide +kernel)
theorem st_73 : Cond.static (xnm 73) ∈ xWds := xW1 (List.mem_of_getElem? (i := 933) (by decide +kernel)) (by decide +kernel)
theorem nm_73 : (xnm 73).cls ≠ "java/lang/invoke/MethodHandle" ∧ (xnm 73).cls ≠ "java/lang/invoke/VarHandle" ∧ (parseMethodDescriptor (xnm 73).desc).map (fun d => d.parameters.length) = some 2 := by decide +kernel
theorem ns_73 : (xnm 73).name ≠ "<init>" ∧ (parseMethodDescriptor (xnm 73).desc).map (fun d => d.parameters.length) = some 2 := by decide +kernel
theorem cw_74 : xcw 74 = Cond.code (xnm 74) cX10_fits 3 (some .int) := rfl
theorem cm_74 : xcw 74 ∈ xWds := xW1 (List.mem_of_getElem? (i := 925) (by decide +kernel)) (by decide +kernel)
theorem ini_74 : Cond.initialized (xnm 74).cls ∈ xWds := xW1 (List.mem_of_getElem? (i := 1) (by decide +kernel)) (by decide +kernel)
theorem in_74 : Cond.instanceMethod (xnm 74) ∈ xWds := xW1 (List.mem_of_getElem? (i := 923) (by decide +kernel)) (by decide +kernel)
theorem sel_74 : Cond.selects (xnm 74).cls (xnm 74) (xnm 74) ∈ xWds := xW1 (List.mem_of_getElem? (i := 924) (by decide +kernel)) (by decide +kernel)
theorem nm_74 : (xnm 74).cls ≠ "java/lang/invoke/MethodHandle" ∧ (xnm 74).cls ≠ "java/lang/invoke/VarHandle" ∧ (parseMethodDescriptor (xnm 74).desc).map (fun d => d.parameters.length) = some 2 := by decide +kernel
theorem ns_74 : (xnm 74).name ≠ "<init>" ∧ (parseMethodDescriptor (xnm 74).desc).map (fun d => d.parameters.length) = some 2 := by decide +kernel
theorem cw_75 : xcw 75 = Cond.code (xnm 75) cX10_step 4 (some .float) := rfl
theorem cm_75 : xcw 75 ∈ xWds := xW1 (List.mem_of_getElem? (i := 938) (by decide +kernel)) (by decide +kernel)
theorem ini_75 : Cond.initialized (xnm 75).cls ∈ xWds := xW1 (List.mem_of_getElem? (i := 1) (by decide +kernel)) (by decide +kernel)
theorem in_75 : Cond.instanceMethod (xnm 75) ∈ xWds := xW1 (List.mem_of_getElem? (i := 936) (by decide +kernel)) (by decide +kernel)
theorem sel_75 : Cond.selects (xnm 75).cls (xnm 75) (xnm 75) ∈ xWds := xW1 (List.mem_of_getElem? (i := 937) (by decide +kernel)) (by decide +kernel)
theorem nm_75 : (xnm 75).cls ≠ "java/lang/invoke/MethodHandle" ∧ (xnm 75).cls ≠ "java/lang/invoke/VarHandle" ∧ (parseMethodDescriptor (xnm 75).desc).map (fun d => d.parameters.length) = some 2 := by decide +kernel
theorem ns_75 : (xnm 75).name ≠ "<init>" ∧ (parseMethodDescriptor (xnm 75).desc).map (fun d => d.parameters.length) = some 2 := by decide +kernel
theorem cw_76 : xcw 76 = Cond.code (xnm 76) cX10_cutInEnd 5 (some .int) := rfl
theorem cm_76 : xcw 76 ∈ xWds := xW1 (List.mem_of_getElem? (i := 947) (by decide +kernel)) (by decide +kernel)
theorem ini_76 : Cond.initialized (xnm 76).cls ∈ xWds := xW1 (List.mem_of_getElem? (i := 1) (by decide +kernel)) (by decide +kernel)
theorem st_76 : Cond.static (xnm 76) ∈ xWds := xW1 (List.mem_of_getElem? (i := 946) (by decide +kernel)) (by decide +kernel)
theorem nm_76 : (xnm 76).cls ≠ "java/lang/invoke/MethodHandle" ∧ (xnm 76).cls ≠ "java/lang/invoke/VarHandle" ∧ (parseMethodDescriptor (xnm 76).desc).map (fun d => d.parameters.length) = some 3 := by decide +kernel
theorem ns_76 : (xnm 76).name ≠ "<init>" ∧ (parseMethodDescriptor (xnm 76).desc).map (fun d => d.parameters.length) = some 3 := by decide +kernel
theorem cw_77 : xcw 77 = Cond.code (xnm 77) cX10_cut 6 (some .int) := rfl
theorem cm_77 : xcw 77 ∈ xWds := xW1 (List.mem_of_getElem? (i := 942) (by decide +kernel)) (by decide +kernel)
theorem ini_77 : Cond.initialized (xnm 77).cls ∈ xWds := xW1 (List.mem_of_getElem? (i := 1) (by decide +kernel)) (by decide +kernel)
theorem in_77 : Cond.instanceMethod (xnm 77) ∈ xWds := xW1 (List.mem_of_getElem? (i := 940) (by decide +kernel)) (by decide +kernel)
theorem sel_77 : Cond.selects (xnm 77).cls (xnm 77) (xnm 77) ∈ xWds := xW1 (List.mem_of_getElem? (i := 941) (by decide +kernel)) (by decide +kernel)
theorem nm_77 : (xnm 77).cls ≠ "java/lang/invoke/MethodHandle" ∧ (xnm 77).cls ≠ "java/lang/invoke/VarHandle" ∧ (parseMethodDescriptor (xnm 77).desc).map (fun d => d.parameters.length) = some 3 := by decide +kernel
theorem ns_77 : (xnm 77).name ≠ "<init>" ∧ (parseMethodDescriptor (xnm 77).desc).map (fun d => d.parameters.length) = some 3 := by decide +kernel
theorem cw_78 : xcw 78 = Cond.code (xnm 78) cX10_testPigment 1 none := rfl
theorem cm_78 : xcw 78 ∈ xWds := xW1 (List.mem_of_getElem? (i := 954) (by decide +kernel)) (by decide +kernel)
theorem ini_78 : Cond.initialized (xnm 78).cls ∈ xWds := xW1 (List.mem_of_getElem? (i := 1) (by decide +kernel)) (by decide +kernel)
theorem st_78 : Cond.static (xnm 78) ∈ xWds := xW1 (List.mem_of_getElem? (i := 953) (by decide +kernel)) (by decide +kernel)
theorem nm_78 : (xnm 78).cls ≠ "java/lang/invoke/MethodHandle" ∧ (xnm 78).cls ≠ "java/lang/invoke/VarHandle" ∧ (parseMethodDescriptor (xnm 78).desc).map (fun d => d.parameters.length) = some 1 := by decide +kernel
theorem ns_78 : (xnm 78).name ≠ "<init>" ∧ (parseMethodDescriptor (xnm 78).desc).map (fun d => d.parameters.length) = some 1 := by decide +kernel
theorem cw_79 : xcw 79 = Cond.code (xnm 79) cX10_window 4 (some .int) := rfl
theorem cm_79 : xcw 79 ∈ xWds := xW1 (List.mem_of_getElem? (i := 951) (by decide +kernel)) (by decide +kernel)
theorem ini_79 : Cond.initialized (xnm 79).cls ∈ xWds := xW1 (List.mem_of_getElem? (i := 1) (by decide +kernel)) (by decide +kernel)
theorem in_79 : Cond.instanceMethod (xnm 79) ∈ xWds := xW1 (List.mem_of_getElem? (i := 949) (by decide +kernel)) (by decide +kernel)
theorem sel_79 : Cond.selects (xnm 79).cls (xnm 79) (xnm 79) ∈ xWds := xW1 (List.mem_of_getElem? (i := 950) (by decide +kernel)) (by decide +kernel)
theorem nm_79 : (xnm 79).cls ≠ "java/lang/invoke/MethodHandle" ∧ (xnm 79).cls ≠ "java/lang/invoke/VarHandle" ∧ (parseMethodDescriptor (xnm 79).desc).map (fun d => d.parameters.length) = some 2 := by decide +kernel
theorem ns_79 : (xnm 79).name ≠ "<init>" ∧ (parseMethodDescriptor (xnm 79).desc).map (fun d => d.parameters.length) = some 2 := by decide +kernel
theorem cw_80 : xcw 80 = Cond.code (xnm 80) cX10_patch 3 (some .int) := rfl
theorem cm_80 : xcw 80 ∈ xWds := xW1 (List.mem_of_getElem? (i := 1005) (by decide +kernel)) (by decide +kernel)
theorem ini_80 : Cond.initialized (xnm 80).cls ∈ xWds := xW1 (List.mem_of_getElem? (i := 1) (by decide +kernel)) (by decide +kernel)
theorem in_80 : Cond.instanceMethod (xnm 80) ∈ xWds := xW1 (List.mem_of_getElem? (i := 1003) (by decide +kernel)) (by decide +kernel)
theorem sel_80 : Cond.selects (xnm 80).cls (xnm 80) (xnm 80) ∈ xWds := xW1 (List.mem_of_getElem? (i := 1004) (by decide +kernel)) (by decide +kernel)
theorem nm_80 : (xnm 80).cls ≠ "java/lang/invoke/MethodHandle" ∧ (xnm 80).cls ≠ "java/lang/invoke/VarHandle" ∧ (parseMethodDescriptor (xnm 80).desc).map (fun d => d.parameters.length) = some 1 := by decide +kernel
theorem ns_80 : (xnm 80).name ≠ "<init>" ∧ (parseMethodDescriptor (xnm 80).desc).map (fun d => d.parameters.length) = some 1 := by decide +kernel
theorem cw_81 : xcw 81 = Cond.code (xnm 81) cX10_patchNumbered 3 (some (.object "Stuccohand$Patch")) := rfl
theorem cm_81 : xcw 81 ∈ xWds := xW1 (List.mem_of_getElem? (i := 294) (by decide +kernel)) (by decide +kernel)
theorem ini_81 : Cond.initialized (xnm 81).cls ∈ xWds := xW1 (List.mem_of_getElem? (i := 1) (by decide +kernel)) (by decide +kernel)
theorem in_81 : Cond.instanceMethod (xnm 81) ∈ xWds := xW1 (List.mem_of_getElem? (i := 293) (by decide +kernel)) (by decide +kernel)
theorem sel_81 : Cond.selects (xnm 81).cls (xnm 81) (xnm 81) ∈ xWds := xWds_in (List.mem_append_left _ (List.mem_of_getElem? (i := 4) (by decide +kernel))) (by decide +kernel)
theorem nm_81 : (xnm 81).cls ≠ "java/lang/invoke/MethodHandle" ∧ (xnm 81).cls ≠ "java/lang/invoke/VarHandle" ∧ (parseMethodDescriptor (xnm 81).desc).map (fun d => d.parameters.length) = some 1 := by decide +kernel
theorem ns_81 : (xnm 81).name ≠ "<init>" ∧ (parseMethodDescriptor (xnm 81).desc).map (fun d => d.parameters.length) = some 1 := by decide +kernel
theorem cw_82 : xcw 82 = Cond.code (xnm 82) cX10_paint 10 (some .int) := rfl
theorem cm_82 : xcw 82 ∈ xWds := xW1 (List.mem_of_getElem? (i := 1040) (by decide +kernel)) (by decide +kernel)
theorem ini_82 : Cond.initialized (xnm 82).cls ∈ xWds := xW1 (List.mem_of_getElem? (i := 1) (by decide +kernel)) (by decide +kernel)
theorem in_82 : Cond.instanceMethod (xnm 82) ∈ xWds := xW1 (List.mem_of_getElem? (i := 1038) (by decide +kernel)) (by decide +kernel)
theorem sel_82 : Cond.selects (xnm 82).cls (xnm 82) (xnm 82) ∈ xWds := xW1 (List.mem_of_getElem? (i := 1039) (by decide +kernel)) (by decide +kernel)
theorem nm_82 : (xnm 82).cls ≠ "java/lang/invoke/MethodHandle" ∧ (xnm 82).cls ≠ "java/lang/invoke/VarHandle" ∧ (parseMethodDescriptor (xnm 82).desc).map (fun d => d.parameters.length) = some 4 := by decide +kernel
theorem ns_82 : (xnm 82).name ≠ "<init>" ∧ (parseMethodDescriptor (xnm 82).desc).map (fun d => d.parameters.length) = some 4 := by decide +kernel
theorem cw_83 : xcw 83 = Cond.code (xnm 83) cX10_ofCell 3 (some .int) := rfl
theorem cm_83 : xcw 83 ∈ xWds := xW1 (List.mem_of_getElem? (i := 267) (by decide +kernel)) (by decide +kernel)
theorem ini_83 : Cond.initialized (xnm 83).cls ∈ xWds := xW1 (List.mem_of_getElem? (i := 1) (by decide +kernel)) (by decide +kernel)
theorem in_83 : Cond.instanceMethod (xnm 83) ∈ xWds := xW1 (List.mem_of_getElem? (i := 265) (by decide +kernel)) (by decide +kernel)
theorem sel_83 : Cond.selects (xnm 83).cls (xnm 83) (xnm 83) ∈ xWds := xW1 (List.mem_of_getElem? (i := 266) (by decide +kernel)) (by decide +kernel)
theorem nm_83 : (xnm 83).cls ≠ "java/lang/invoke/MethodHandle" ∧ (xnm 83).cls ≠ "java/lang/invoke/VarHandle" ∧ (parseMethodDescriptor (xnm 83).desc).map (fun d => d.parameters.length) = some 2 := by decide +kernel
theorem ns_83 : (xnm 83).name ≠ "<init>" ∧ (parseMethodDescriptor (xnm 83).desc).map (fun d => d.parameters.length) = some 2 := by decide +kernel
theorem cw_84 : xcw 84 = Cond.code (xnm 84) cX10_cellsBeside 10 (some .long) := rfl
theorem cm_84 : xcw 84 ∈ xWds := xW1 (List.mem_of_getElem? (i := 302) (by decide +kernel)) (by decide +kernel)
theorem ini_84 : Cond.initialized (xnm 84).cls ∈ xWds := xW1 (List.mem_of_getElem? (i := 1) (by decide +kernel)) (by decide +kernel)
theorem st_84 : Cond.static (xnm 84) ∈ xWds := xW1 (List.mem_of_getElem? (i := 301) (by decide +kernel)) (by decide +kernel)
theorem nm_84 : (xnm 84).cls ≠ "java/lang/invoke/MethodHandle" ∧ (xnm 84).cls ≠ "java/lang/invoke/VarHandle" ∧ (parseMethodDescriptor (xnm 84).desc).map (fun d => d.parameters.length) = some 1 := by decide +kernel
theorem ns_84 : (xnm 84).name ≠ "<init>" ∧ (parseMethodDescriptor (xnm 84).desc).map (fun d => d.parameters.length) = some 1 := by decide +kernel
theorem cw_85 : xcw 85 = Cond.code (xnm 85) cX10_over 3 (some .int) := rfl
theorem cm_85 : xcw 85 ∈ xWds := xW1 (List.mem_of_getElem? (i := 290) (by decide +kernel)) (by decide +kernel)
theorem ini_85 : Cond.initialized (xnm 85).cls ∈ xWds := xW1 (List.mem_of_getElem? (i := 1) (by decide +kernel)) (by decide +kernel)
theorem in_85 : Cond.instanceMethod (xnm 85) ∈ xWds := xW1 (List.mem_of_getElem? (i := 288) (by decide +kernel)) (by decide +kernel)
theorem sel_85 : Cond.selects (xnm 85).cls (xnm 85) (xnm 85) ∈ xWds := xW1 (List.mem_of_getElem? (i := 289) (by decide +kernel)) (by decide +kernel)
theorem nm_85 : (xnm 85).cls ≠ "java/lang/invoke/MethodHandle" ∧ (xnm 85).cls ≠ "java/lang/invoke/VarHandle" ∧ (parseMethodDescriptor (xnm 85).desc).map (fun d => d.parameters.length) = some 1 := by decide +kernel
theorem ns_85 : (xnm 85).name ≠ "<init>" ∧ (parseMethodDescriptor (xnm 85).desc).map (fun d => d.parameters.length) = some 1 := by decide +kernel
theorem cw_86 : xcw 86 = Cond.code (xnm 86) cX10_isReading 1 (some .boolean) := rfl
theorem cm_86 : xcw 86 ∈ xWds := xW1 (List.mem_of_getElem? (i := 993) (by decide +kernel)) (by decide +kernel)
theorem ini_86 : Cond.initialized (xnm 86).cls ∈ xWds := xW1 (List.mem_of_getElem? (i := 1) (by decide +kernel)) (by decide +kernel)
theorem st_86 : Cond.static (xnm 86) ∈ xWds := xW1 (List.mem_of_getElem? (i := 992) (by decide +kernel)) (by decide +kernel)
theorem nm_86 : (xnm 86).cls ≠ "java/lang/invoke/MethodHandle" ∧ (xnm 86).cls ≠ "java/lang/invoke/VarHandle" ∧ (parseMethodDescriptor (xnm 86).desc).map (fun d => d.parameters.length) = some 1 := by decide +kernel
theorem ns_86 : (xnm 86).name ≠ "<init>" ∧ (parseMethodDescriptor (xnm 86).desc).map (fun d => d.parameters.length) = some 1 := by decide +kernel
theorem cw_87 : xcw 87 = Cond.code (xnm 87) cX10_tells 9 (some .int) := rfl
theorem cm_87 : xcw 87 ∈ xWds := xW1 (List.mem_of_getElem? (i := 990) (by decide +kernel)) (by decide +kernel)
theorem ini_87 : Cond.initialized (xnm 87).cls ∈ xWds := xW1 (List.mem_of_getElem? (i := 1) (by decide +kernel)) (by decide +kernel)
theorem in_87 : Cond.instanceMethod (xnm 87) ∈ xWds := xW1 (List.mem_of_getElem? (i := 988) (by decide +kernel)) (by decide +kernel)
theorem sel_87 : Cond.selects (xnm 87).cls (xnm 87) (xnm 87) ∈ xWds := xW1 (List.mem_of_getElem? (i := 989) (by decide +kernel)) (by decide +kernel)
theorem nm_87 : (xnm 87).cls ≠ "java/lang/invoke/MethodHandle" ∧ (xnm 87).cls ≠ "java/lang/invoke/VarHandle" ∧ (parseMethodDescriptor (xnm 87).desc).map (fun d => d.parameters.length) = some 6 := by decide +kernel
theorem ns_87 : (xnm 87).name ≠ "<init>" ∧ (parseMethodDescriptor (xnm 87).desc).map (fun d => d.parameters.length) = some 6 := by decide +kernel
theorem cw_88 : xcw 88 = Cond.code (xnm 88) cX10_fieldAround 6 (some .long) := rfl
theorem cm_88 : xcw 88 ∈ xWds := xW1 (List.mem_of_getElem? (i := 1085) (by decide +kernel)) (by decide +kernel)
theorem ini_88 : Cond.initialized (xnm 88).cls ∈ xWds := xW1 (List.mem_of_getElem? (i := 1) (by decide +kernel)) (by decide +kernel)
theorem st_88 : Cond.static (xnm 88) ∈ xWds := xW1 (List.mem_of_getElem? (i := 1084) (by decide +kernel)) (by decide +kernel)
theorem nm_88 : (xnm 88).cls ≠ "java/lang/invoke/MethodHandle" ∧ (xnm 88).cls ≠ "java/lang/invoke/VarHandle" ∧ (parseMethodDescriptor (xnm 88).desc).map (fun d => d.parameters.length) = some 2 := by decide +kernel
theorem ns_88 : (xnm 88).name ≠ "<init>" ∧ (parseMethodDescriptor (xnm 88).desc).map (fun d => d.parameters.length) = some 2 := by decide +kernel
theorem cw_89 : xcw 89 = Cond.code (xnm 89) cX10_pins 9 (some .int) := rfl
theorem cm_89 : xcw 89 ∈ xWds := xW1 (List.mem_of_getElem? (i := 1082) (by decide +kernel)) (by decide +kernel)
theorem ini_89 : Cond.initialized (xnm 89).cls ∈ xWds := xW1 (List.mem_of_getElem? (i := 1) (by decide +kernel)) (by decide +kernel)
theorem in_89 : Cond.instanceMethod (xnm 89) ∈ xWds := xW1 (List.mem_of_getElem? (i := 1080) (by decide +kernel)) (by decide +kernel)
theorem sel_89 : Cond.selects (xnm 89).cls (xnm 89) (xnm 89) ∈ xWds := xW1 (List.mem_of_getElem? (i := 1081) (by decide +kernel)) (by decide +kernel)
theorem nm_89 : (xnm 89).cls ≠ "java/lang/invoke/MethodHandle" ∧ (xnm 89).cls ≠ "java/lang/invoke/VarHandle" ∧ (parseMethodDescriptor (xnm 89).desc).map (fun d => d.parameters.length) = some 1 := by decide +kernel
theorem ns_89 : (xnm 89).name ≠ "<init>" ∧ (parseMethodDescriptor (xnm 89).desc).map (fun d => d.parameters.length) = some 1 := by decide +kernel
theorem cw_90 : xcw 90 = Cond.code (xnm 90) cX10_bill 6 (some .int) := rfl
theorem cm_90 : xcw 90 ∈ xWds := xW1 (List.mem_of_getElem? (i := 967) (by decide +kernel)) (by decide +kernel)
theorem ini_90 : Cond.initialized (xnm 90).cls ∈ xWds := xW1 (List.mem_of_getElem? (i := 1) (by decide +kernel)) (by decide +kernel)
theorem in_90 : Cond.instanceMethod (xnm 90) ∈ xWds := xW1 (List.mem_of_getElem? (i := 965) (by decide +kernel)) (by decide +kernel)
theorem sel_90 : Cond.selects (xnm 90).cls (xnm 90) (xnm 90) ∈ xWds := xW1 (List.mem_of_getElem? (i := 966) (by decide +kernel)) (by decide +kernel)
theorem nm_90 : (xnm 90).cls ≠ "java/lang/invoke/MethodHandle" ∧ (xnm 90).cls ≠ "java/lang/invoke/VarHandle" ∧ (parseMethodDescriptor (xnm 90).desc).map (fun d => d.parameters.length) = some 3 := by decide +kernel
theorem ns_90 : (xnm 90).name ≠ "<init>" ∧ (parseMethodDescriptor (xnm 90).desc).map (fun d => d.parameters.length) = some 3 := by decide +kernel
theorem cw_91 : xcw 91 = Cond.code (xnm 91) cJ0_checkIndex_df160 2 none := rfl
theorem cm_91 : xcw 91 ∈ xWds := xW1 (List.mem_of_getElem? (i := 813) (by decide +kernel)) (by decide +kernel)
theorem ini_91 : Cond.initialized (xnm 91).cls ∈ xWds := xW1 (List.mem_of_getElem? (i := 27) (by decide +kernel)) (by decide +kernel)
theorem st_91 : Cond.static (xnm 91) ∈ xWds := xW1 (List.mem_of_getElem? (i := 812) (by decide +kernel)) (by decide +kernel)
theorem nm_91 : (xnm 91).cls ≠ "java/lang/invoke/MethodHandle" ∧ (xnm 91).cls ≠ "java/lang/invoke/VarHandle" ∧ (parseMethodDescriptor (xnm 91).desc).map (fun d => d.parameters.length) = some 2 := by decide +kernel
theorem ns_91 : (xnm 91).name ≠ "<init>" ∧ (parseMethodDescriptor (xnm 91).desc).map (fun d => d.parameters.length) = some 2 := by decide +kernel
theorem cw_92 : xcw 92 = Cond.code (xnm 92) cJ0_coder_7d493 1 (some .byte) := rfl
theorem cm_92 : xcw 92 ∈ xWds := xW1 (List.mem_of_getElem? (i := 759) (by decide +kernel)) (by decide +kernel)
theorem ini_92 : Cond.initialized (xnm 92).cls ∈ xWds := xW1 (List.mem_of_getElem? (i := 27) (by decide +kernel)) (by decide +kernel)
theorem in_92 : Cond.instanceMethod (xnm 92) ∈ xWds := xW1 (List.mem_of_getElem? (i := 757) (by decide +kernel)) (by decide +kernel)
theorem sel_92 : Cond.selects (xnm 92).cls (xnm 92) (xnm 92) ∈ xWds := xW1 (List.mem_of_getElem? (i := 758) (by decide +kernel)) (by decide +kernel)
theorem nm_92 : (xnm 92).cls ≠ "java/lang/invoke/MethodHandle" ∧ (xnm 92).cls ≠ "java/lang/invoke/VarHandle" ∧ (parseMethodDescriptor (xnm 92).desc).map (fun d => d.parameters.length) = some 0 := by decide +kernel
theorem ns_92 : (xnm 92).name ≠ "<init>" ∧ (parseMethodDescriptor (xnm 92).desc).map (fun d => d.parameters.length) = some 0 := by decide +kernel
theorem cw_93 : xcw 93 = Cond.code (xnm 93) cJ0_getBytes_840e7 4 none := rfl
theorem cm_93 : xcw 93 ∈ xWds := xW1 (List.mem_of_getElem? (i := 792) (by decide +kernel)) (by decide +kernel)
theorem ini_93 : Cond.initialized (xnm 93).cls ∈ xWds := xW1 (List.mem_of_getElem? (i := 27) (by decide +kernel)) (by decide +kernel)
theorem in_93 : Cond.instanceMethod (xnm 93) ∈ xWds := xW1 (List.mem_of_getElem? (i := 790) (by decide +kernel)) (by decide +kernel)
theorem sel_93 : Cond.selects (xnm 93).cls (xnm 93) (xnm 93) ∈ xWds := xW1 (List.mem_of_getElem? (i := 791) (by decide +kernel)) (by decide +kernel)
theorem nm_93 : (xnm 93).cls ≠ "java/lang/invoke/MethodHandle" ∧ (xnm 93).cls ≠ "java/lang/invoke/VarHandle" ∧ (parseMethodDescriptor (xnm 93).desc).map (fun d => d.parameters.length) = some 3 := by decide +kernel
theorem ns_93 : (xnm 93).name ≠ "<init>" ∧ (parseMethodDescriptor (xnm 93).desc).map (fun d => d.parameters.length) = some 3 := by decide +kernel
theorem cw_94 : xcw 94 = Cond.code (xnm 94) cJ0_length_8abf5 1 (some .int) := rfl
theorem cm_94 : xcw 94 ∈ xWds := xW1 (List.mem_of_getElem? (i := 755) (by decide +kernel)) (by decide +kernel)
theorem ini_94 : Cond.initialized (xnm 94).cls ∈ xWds := xW1 (List.mem_of_getElem? (i := 27) (by decide +kernel)) (by decide +kernel)
theorem in_94 : Cond.instanceMethod (xnm 94) ∈ xWds := xW1 (List.mem_of_getElem? (i := 753) (by decide +kernel)) (by decide +kernel)
theorem sel_94 : Cond.selects (xnm 94).cls (xnm 94) (xnm 94) ∈ xWds := xW1 (List.mem_of_getElem? (i := 754) (by decide +kernel)) (by decide +kernel)
theorem nm_94 : (xnm 94).cls ≠ "java/lang/invoke/MethodHandle" ∧ (xnm 94).cls ≠ "java/lang/invoke/VarHandle" ∧ (parseMethodDescriptor (xnm 94).desc).map (fun d => d.parameters.length) = some 0 := by decide +kernel
theorem ns_94 : (xnm 94).name ≠ "<init>" ∧ (parseMethodDescriptor (xnm 94).desc).map (fun d => d.parameters.length) = some 0 := by decide +kernel
theorem cw_95 : xcw 95 = Cond.code (xnm 95) cJ13_bitCount_95d88 2 (some .int) := rfl
theorem cm_95 : xcw 95 ∈ xWds := xW1 (List.mem_of_getElem? (i := 1045) (by decide +kernel)) (by decide +kernel)
theorem ini_95 : Cond.initialized (xnm 95).cls ∈ xWds := xW1 (List.mem_of_getElem? (i := 34) (by decide +kernel)) (by decide +kernel)
theorem st_95 : Cond.static (xnm 95) ∈ xWds := xW1 (List.mem_of_getElem? (i := 1044) (by decide +kernel)) (by decide +kernel)
theorem nm_95 : (xnm 95).cls ≠ "java/lang/invoke/MethodHandle" ∧ (xnm 95).cls ≠ "java/lang/invoke/VarHandle" ∧ (parseMethodDescriptor (xnm 95).desc).map (fun d => d.parameters.length) = some 1 := by decide +kernel
theorem ns_95 : (xnm 95).name ≠ "<init>" ∧ (parseMethodDescriptor (xnm 95).desc).map (fun d => d.parameters.length) = some 1 := by decide +kernel
theorem cw_96 : xcw 96 = Cond.code (xnm 96) cJ15_checkIndex_7cf53 2 (some .int) := rfl
theorem cm_96 : xcw 96 ∈ xWds := xW1 (List.mem_of_getElem? (i := 219) (by decide +kernel)) (by decide +kernel)
theorem ini_96 : Cond.initialized (xnm 96).cls ∈ xWds := xW1 (List.mem_of_getElem? (i := 11) (by decide +kernel)) (by decide +kernel)
theorem st_96 : Cond.static (xnm 96) ∈ xWds := xW1 (List.mem_of_getElem? (i := 218) (by decide +kernel)) (by decide +kernel)
theorem nm_96 : (xnm 96).cls ≠ "java/lang/invoke/MethodHandle" ∧ (xnm 96).cls ≠ "java/lang/invoke/VarHandle" ∧ (parseMethodDescriptor (xnm 96).desc).map (fun d => d.parameters.length) = some 2 := by decide +kernel
theorem ns_96 : (xnm 96).name ≠ "<init>" ∧ (parseMethodDescriptor (xnm 96).desc).map (fun d => d.parameters.length) = some 2 := by decide +kernel
theorem cw_97 : xcw 97 = Cond.code (xnm 97) cJ1_canEncode_fc78d 1 (some .boolean) := rfl
theorem cm_97 : xcw 97 ∈ xWds := xW1 (List.mem_of_getElem? (i := 804) (by decide +kernel)) (by decide +kernel)
theorem ini_97 : Cond.initialized (xnm 97).cls ∈ xWds := xW1 (List.mem_of_getElem? (i := 29) (by decide +kernel)) (by decide +kernel)
theorem st_97 : Cond.static (xnm 97) ∈ xWds := xW1 (List.mem_of_getElem? (i := 803) (by decide +kernel)) (by decide +kernel)
theorem nm_97 : (xnm 97).cls ≠ "java/lang/invoke/MethodHandle" ∧ (xnm 97).cls ≠ "java/lang/invoke/VarHandle" ∧ (parseMethodDescriptor (xnm 97).desc).map (fun d => d.parameters.length) = some 1 := by decide +kernel
theorem ns_97 : (xnm 97).name ≠ "<init>" ∧ (parseMethodDescriptor (xnm 97).desc).map (fun d => d.parameters.length) = some 1 := by decide +kernel
theorem cw_99 : xcw 99 = Cond.code (xnm 99) cJ3_checkIndex_8e157 3 (some .int) := rfl
theorem cm_99 : xcw 99 ∈ xWds := xW1 (List.mem_of_getElem? (i := 222) (by decide +kernel)) (by decide +kernel)
theorem ini_99 : Cond.initialized (xnm 99).cls ∈ xWds := xW1 (List.mem_of_getElem? (i := 12) (by decide +kernel)) (by decide +kernel)
theorem st_99 : Cond.static (xnm 99) ∈ xWds := xW1 (List.mem_of_getElem? (i := 221) (by decide +kernel)) (by decide +kernel)
theorem nm_99 : (xnm 99).cls ≠ "java/lang/invoke/MethodHandle" ∧ (xnm 99).cls ≠ "java/lang/invoke/VarHandle" ∧ (parseMethodDescriptor (xnm 99).desc).map (fun d => d.parameters.length) = some 3 := by decide +kernel
theorem ns_99 : (xnm 99).name ≠ "<init>" ∧ (parseMethodDescriptor (xnm 99).desc).map (fun d => d.parameters.length) = some 3 := by decide +kernel
theorem cw_100 : xcw 100 = Cond.code (xnm 100) cJ4_append_15ec4 2 (some (.object "java/lang/StringBuilder")) := rfl
theorem cm_100 : xcw 100 ∈ xWds := xW1 (List.mem_of_getElem? (i := 693) (by decide +kernel)) (by decide +kernel)
theorem ini_100 : Cond.initialized (xnm 100).cls ∈ xWds := xW1 (List.mem_of_getElem? (i := 26) (by decide +kernel)) (by decide +kernel)
theorem in_100 : Cond.instanceMethod (xnm 100) ∈ xWds := xW1 (List.mem_of_getElem? (i := 691) (by decide +kernel)) (by decide +kernel)
theorem sel_100 : Cond.selects (xnm 100).cls (xnm 100) (xnm 100) ∈ xWds := xW1 (List.mem_of_getElem? (i := 692) (by decide +kernel)) (by decide +kernel)
theorem nm_100 : (xnm 100).cls ≠ "java/lang/invoke/MethodHandle" ∧ (xnm 100).cls ≠ "java/lang/invoke/VarHandle" ∧ (parseMethodDescriptor (xnm 100).desc).map (fun d => d.parameters.length) = some 1 := by decide +kernel
theorem ns_100 : (xnm 100).name ≠ "<init>" ∧ (parseMethodDescriptor (xnm 100).desc).map (fun d => d.parameters.length) = some 1 := by decide +kernel
theorem cw_101 : xcw 101 = Cond.code (xnm 101) cJ4_append_bf812 2 (some (.object "java/lang/StringBuilder")) := rfl
theorem cm_101 : xcw 101 ∈ xWds := xW1 (List.mem_of_getElem? (i := 818) (by decide +kernel)) (by decide +kernel)
theorem ini_101 : Cond.initialized (xnm 101).cls ∈ xWds := xW1 (List.mem_of_getElem? (i := 26) (by decide +kernel)) (by decide +kernel)
theorem in_101 : Cond.instanceMethod (xnm 101) ∈ xWds := xW1 (List.mem_of_getElem? (i := 816) (by decide +kernel)) (by decide +kernel)
theorem sel_101 : Cond.selects (xnm 101).cls (xnm 101) (xnm 101) ∈ xWds := xW1 (List.mem_of_getElem? (i := 817) (by decide +kernel)) (by decide +kernel)
theorem nm_101 : (xnm 101).cls ≠ "java/lang/invoke/MethodHandle" ∧ (xnm 101).cls ≠ "java/lang/invoke/VarHandle" ∧ (parseMethodDescriptor (xnm 101).desc).map (fun d => d.parameters.length) = some 1 := by decide +kernel
theorem ns_101 : (xnm 101).name ≠ "<init>" ∧ (parseMethodDescriptor (xnm 101).desc).map (fun d => d.parameters.length) = some 1 := by decide +kernel
theorem cw_102 : xcw 102 = Cond.code (xnm 102) cJ4_append_cf468 2 (some (.object "java/lang/StringBuilder")) := rfl
theorem cm_102 : xcw 102 ∈ xWds := xW1 (List.mem_of_getElem? (i := 798) (by decide +kernel)) (by decide +kernel)
theorem ini_102 : Cond.initialized (xnm 102).cls ∈ xWds := xW1 (List.mem_of_getElem? (i := 26) (by decide +kernel)) (by decide +kernel)
theorem in_102 : Cond.instanceMethod (xnm 102) ∈ xWds := xW1 (List.mem_of_getElem? (i := 796) (by decide +kernel)) (by decide +kernel)
theorem sel_102 : Cond.selects (xnm 102).cls (xnm 102) (xnm 102) ∈ xWds := xW1 (List.mem_of_getElem? (i := 797) (by decide +kernel)) (by decide +kernel)
theorem nm_102 : (xnm 102).cls ≠ "java/lang/invoke/MethodHandle" ∧ (xnm 102).cls ≠ "java/lang/invoke/VarHandle" ∧ (parseMethodDescriptor (xnm 102).desc).map (fun d => d.parameters.length) = some 1 := by decide +kernel
theorem ns_102 : (xnm 102).name ≠ "<init>" ∧ (parseMethodDescriptor (xnm 102).desc).map (fun d => d.parameters.length) = some 1 := by decide +kernel
theorem cw_103 : xcw 103 = Cond.code (xnm 103) cJ4_charAt_5068e 2 (some .char) := rfl
theorem cm_103 : xcw 103 ∈ xWds := xW1 (List.mem_of_getElem? (i := 853) (by decide +kernel)) (by decide +kernel)
theorem ini_103 : Cond.initialized (xnm 103).cls ∈ xWds := xW1 (List.mem_of_getElem? (i := 26) (by decide +kernel)) (by decide +kernel)
theorem in_103 : Cond.instanceMethod (xnm 103) ∈ xWds := xW1 (List.mem_of_getElem? (i := 851) (by decide +kernel)) (by decide +kernel)
theorem sel_103 : Cond.selects (xnm 103).cls (xnm 103) (xnm 103) ∈ xWds := xW1 (List.mem_of_getElem? (i := 852) (by decide +kernel)) (by decide +kernel)
theorem nm_103 : (xnm 103).cls ≠ "java/lang/invoke/MethodHandle" ∧ (xnm 103).cls ≠ "java/lang/invoke/VarHandle" ∧ (parseMethodDescriptor (xnm 103).desc).map (fun d => d.parameters.length) = some 1 := by decide +kernel
theorem ns_103 : (xnm 103).name ≠ "<init>" ∧ (parseMethodDescriptor (xnm 103).desc).map (fun d => d.parameters.length) = some 1 := by decide +kernel
theorem cw_104 : xcw 104 = Cond.code (xnm 104) cJ4_init_da8c8 1 none := rfl
theorem cm_104 : xcw 104 ∈ xWds := xW1 (List.mem_of_getElem? (i := 664) (by decide +kernel)) (by decide +kernel)
theorem ini_104 : Cond.initialized (xnm 104).cls ∈ xWds := xW1 (List.mem_of_getElem? (i := 26) (by decide +kernel)) (by decide +kernel)
theorem in_104 : Cond.instanceMethod (xnm 104) ∈ xWds := xW1 (List.mem_of_getElem? (i := 663) (by decide +kernel)) (by decide +kernel)
theorem nm_104 : (xnm 104).cls ≠ "java/lang/invoke/MethodHandle" ∧ (xnm 104).cls ≠ "java/lang/invoke/VarHandle" ∧ (parseMethodDescriptor (xnm 104).desc).map (fun d => d.parameters.length) = some 0 := by decide +kernel
theorem cw_105 : xcw 105 = Cond.code (xnm 105) cJ4_length_8abf5 1 (some .int) := rfl
theorem cm_105 : xcw 105 ∈ xWds := xW1 (List.mem_of_getElem? (i := 846) (by decide +kernel)) (by decide +kernel)
theorem ini_105 : Cond.initialized (xnm 105).cls ∈ xWds := xW1 (List.mem_of_getElem? (i := 26) (by decide +kernel)) (by decide +kernel)
theorem in_105 : Cond.instanceMethod (xnm 105) ∈ xWds := xW1 (List.mem_of_getElem? (i := 844) (by decide +kernel)) (by decide +kernel)
theorem sel_105 : Cond.selects (xnm 105).cls (xnm 105) (xnm 105) ∈ xWds := xW1 (List.mem_of_getElem? (i := 845) (by decide +kernel)) (by decide +kernel)
theorem nm_105 : (xnm 105).cls ≠ "java/lang/invoke/MethodHandle" ∧ (xnm 105).cls ≠ "java/lang/invoke/VarHandle" ∧ (parseMethodDescriptor (xnm 105).desc).map (fun d => d.parameters.length) = some 0 := by decide +kernel
theorem ns_105 : (xnm 105).name ≠ "<init>" ∧ (parseMethodDescriptor (xnm 105).desc).map (fun d => d.parameters.length) = some 0 := by decide +kernel
theorem cw_106 : xcw 106 = Cond.code (xnm 106) cJ5_append_3fe6f 2 (some (.object "java/lang/AbstractStringBuilder")) := rfl
theorem cm_106 : xcw 106 ∈ xWds := xW1 (List.mem_of_getElem? (i := 801) (by decide +kernel)) (by decide +kernel)
theorem ini_106 : Cond.initialized (xnm 106).cls ∈ xWds := xW1 (List.mem_of_getElem? (i := 25) (by decide +kernel)) (by decide +kernel)
theorem in_106 : Cond.instanceMethod (xnm 106) ∈ xWds := xW1 (List.mem_of_getElem? (i := 800) (by decide +kernel)) (by decide +kernel)
theorem nm_106 : (xnm 106).cls ≠ "java/lang/invoke/MethodHandle" ∧ (xnm 106).cls ≠ "java/lang/invoke/VarHandle" ∧ (parseMethodDescriptor (xnm 106).desc).map (fun d => d.parameters.length) = some 1 := by decide +kernel
theorem ns_106 : (xnm 106).name ≠ "<init>" ∧ (parseMethodDescriptor (xnm 106).desc).map (fun d => d.parameters.length) = some 1 := by decide +kernel
theorem cw_107 : xcw 107 = Cond.code (xnm 107) cJ5_append_c97b9 4 (some (.object "java/lang/AbstractStringBuilder")) := rfl
theorem cm_107 : xcw 107 ∈ xWds := xW1 (List.mem_of_getElem? (i := 821) (by decide +kernel)) (by decide +kernel)
theorem ini_107 : Cond.initialized (xnm 107).cls ∈ xWds := xW1 (List.mem_of_getElem? (i := 25) (by decide +kernel)) (by decide +kernel)
theorem in_107 : Cond.instanceMethod (xnm 107) ∈ xWds := xW1 (List.mem_of_getElem? (i := 820) (by decide +kernel)) (by decide +kernel)
theorem nm_107 : (xnm 107).cls ≠ "java/lang/invoke/MethodHandle" ∧ (xnm 107).cls ≠ "java/lang/invoke/VarHandle" ∧ (parseMethodDescriptor (xnm 107).desc).map (fun d => d.parameters.length) = some 1 := by decide +kernel
theorem ns_107 : (xnm 107).name ≠ "<init>" ∧ (parseMethodDescriptor (xnm 107).desc).map (fun d => d.parameters.length) = some 1 := by decide +kernel
theorem cw_108 : xcw 108 = Cond.code (xnm 108) cJ5_append_cf1ce 3 (some (.object "java/lang/AbstractStringBuilder")) := rfl
theorem cm_108 : xcw 108 ∈ xWds := xW1 (List.mem_of_getElem? (i := 696) (by decide +kernel)) (by decide +kernel)
theorem ini_108 : Cond.initialized (xnm 108).cls ∈ xWds := xW1 (List.mem_of_getElem? (i := 25) (by decide +kernel)) (by decide +kernel)
theorem in_108 : Cond.instanceMethod (xnm 108) ∈ xWds := xW1 (List.mem_of_getElem? (i := 695) (by decide +kernel)) (by decide +kernel)
theorem nm_108 : (xnm 108).cls ≠ "java/lang/invoke/MethodHandle" ∧ (xnm 108).cls ≠ "java/lang/invoke/VarHandle" ∧ (parseMethodDescriptor (xnm 108).desc).map (fun d => d.parameters.length) = some 1 := by decide +kernel
theorem ns_108 : (xnm 108).name ≠ "<init>" ∧ (parseMethodDescriptor (xnm 108).desc).map (fun d => d.parameters.length) = some 1 := by decide +kernel
theorem cw_109 : xcw 109 = Cond.code (xnm 109) cJ5_charAt_5068e 5 (some .char) := rfl
theorem cm_109 : xcw 109 ∈ xWds := xW1 (List.mem_of_getElem? (i := 856) (by decide +kernel)) (by decide +kernel)
theorem ini_109 : Cond.initialized (xnm 109).cls ∈ xWds := xW1 (List.mem_of_getElem? (i := 25) (by decide +kernel)) (by decide +kernel)
theorem in_109 : Cond.instanceMethod (xnm 109) ∈ xWds := xW1 (List.mem_of_getElem? (i := 855) (by decide +kernel)) (by decide +kernel)
theorem nm_109 : (xnm 109).cls ≠ "java/lang/invoke/MethodHandle" ∧ (xnm 109).cls ≠ "java/lang/invoke/VarHandle" ∧ (parseMethodDescriptor (xnm 109).desc).map (fun d => d.parameters.length) = some 1 := by decide +kernel
theorem ns_109 : (xnm 109).name ≠ "<init>" ∧ (parseMethodDescriptor (xnm 109).desc).map (fun d => d.parameters.length) = some 1 := by decide +kernel
theorem cw_110 : xcw 110 = Cond.code (xnm 110) cJ5_ensureCapacityInternal_d00df 3 none := rfl
theorem cm_110 : xcw 110 ∈ xWds := xW1 (List.mem_of_getElem? (i := 704) (by decide +kernel)) (by decide +kernel)
theorem ini_110 : Cond.initialized (xnm 110).cls ∈ xWds := xW1 (List.mem_of_getElem? (i := 25) (by decide +kernel)) (by decide +kernel)
theorem in_110 : Cond.instanceMethod (xnm 110) ∈ xWds := xW1 (List.mem_of_getElem? (i := 703) (by decide +kernel)) (by decide +kernel)
theorem nm_110 : (xnm 110).cls ≠ "java/lang/invoke/MethodHandle" ∧ (xnm 110).cls ≠ "java/lang/invoke/VarHandle" ∧ (parseMethodDescriptor (xnm 110).desc).map (fun d => d.parameters.length) = some 1 := by decide +kernel
theorem ns_110 : (xnm 110).name ≠ "<init>" ∧ (parseMethodDescriptor (xnm 110).desc).map (fun d => d.parameters.length) = some 1 := by decide +kernel
theorem cw_111 : xcw 111 = Cond.code (xnm 111) cJ5_init_d00df 2 none := rfl
theorem cm_111 : xcw 111 ∈ xWds := xW1 (List.mem_of_getElem? (i := 667) (by decide +kernel)) (by decide +kernel)
theorem ini_111 : Cond.initialized (xnm 111).cls ∈ xWds := xW1 (List.mem_of_getElem? (i := 25) (by decide +kernel)) (by decide +kernel)
theorem in_111 : Cond.instanceMethod (xnm 111) ∈ xWds := xW1 (List.mem_of_getElem? (i := 666) (by decide +kernel)) (by decide +kernel)
theorem nm_111 : (xnm 111).cls ≠ "java/lang/invoke/MethodHandle" ∧ (xnm 111).cls ≠ "java/lang/invoke/VarHandle" ∧ (parseMethodDescriptor (xnm 111).desc).map (fun d => d.parameters.length) = some 1 := by decide +kernel
theorem cw_112 : xcw 112 = Cond.code (xnm 112) cJ5_inflateIfNeededFor_a7421 2 none := rfl
theorem cm_112 : xcw 112 ∈ xWds := xW1 (List.mem_of_getElem? (i := 768) (by decide +kernel)) (by decide +kernel)
theorem ini_112 : Cond.initialized (xnm 112).cls ∈ xWds := xW1 (List.mem_of_getElem? (i := 25) (by decide +kernel)) (by decide +kernel)
theorem in_112 : Cond.instanceMethod (xnm 112) ∈ xWds := xW1 (List.mem_of_getElem? (i := 767) (by decide +kernel)) (by decide +kernel)
theorem nm_112 : (xnm 112).cls ≠ "java/lang/invoke/MethodHandle" ∧ (xnm 112).cls ≠ "java/lang/invoke/VarHandle" ∧ (parseMethodDescriptor (xnm 112).desc).map (fun d => d.parameters.length) = some 1 := by decide +kernel
theorem ns_112 : (xnm 112).name ≠ "<init>" ∧ (parseMethodDescriptor (xnm 112).desc).map (fun d => d.parameters.length) = some 1 := by decide +kernel
theorem cw_113 : xcw 113 = Cond.code (xnm 113) cJ5_isLatin1_aae02 1 (some .boolean) := rfl
theorem cm_113 : xcw 113 ∈ xWds := xW1 (List.mem_of_getElem? (i := 725) (by decide +kernel)) (by decide +kernel)
theorem ini_113 : Cond.initialized (xnm 113).cls ∈ xWds := xW1 (List.mem_of_getElem? (i := 25) (by decide +kernel)) (by decide +kernel)
theorem in_113 : Cond.instanceMethod (xnm 113) ∈ xWds := xW1 (List.mem_of_getElem? (i := 722) (by decide +kernel)) (by decide +kernel)
theorem nm_113 : (xnm 113).cls ≠ "java/lang/invoke/MethodHandle" ∧ (xnm 113).cls ≠ "java/lang/invoke/VarHandle" ∧ (parseMethodDescriptor (xnm 113).desc).map (fun d => d.parameters.length) = some 0 := by decide +kernel
theorem ns_113 : (xnm 113).name ≠ "<init>" ∧ (parseMethodDescriptor (xnm 113).desc).map (fun d => d.parameters.length) = some 0 := by decide +kernel
theorem cw_114 : xcw 114 = Cond.code (xnm 114) cJ5_length_8abf5 1 (some .int) := rfl
theorem cm_114 : xcw 114 ∈ xWds := xW1 (List.mem_of_getElem? (i := 849) (by decide +kernel)) (by decide +kernel)
theorem ini_114 : Cond.initialized (xnm 114).cls ∈ xWds := xW1 (List.mem_of_getElem? (i := 25) (by decide +kernel)) (by decide +kernel)
theorem in_114 : Cond.instanceMethod (xnm 114) ∈ xWds := xW1 (List.mem_of_getElem? (i := 848) (by decide +kernel)) (by decide +kernel)
theorem nm_114 : (xnm 114).cls ≠ "java/lang/invoke/MethodHandle" ∧ (xnm 114).cls ≠ "java/lang/invoke/VarHandle" ∧ (parseMethodDescriptor (xnm 114).desc).map (fun d => d.parameters.length) = some 0 := by decide +kernel
theorem ns_114 : (xnm 114).name ≠ "<init>" ∧ (parseMethodDescriptor (xnm 114).desc).map (fun d => d.parameters.length) = some 0 := by decide +kernel
theorem cw_115 : xcw 115 = Cond.code (xnm 115) cJ5_newCapacity_0f7a4 6 (some .int) := rfl
theorem cm_115 : xcw 115 ∈ xWds := xW1 (List.mem_of_getElem? (i := 708) (by decide +kernel)) (by decide +kernel)
theorem ini_115 : Cond.initialized (xnm 115).cls ∈ xWds := xW1 (List.mem_of_getElem? (i := 25) (by decide +kernel)) (by decide +kernel)
theorem in_115 : Cond.instanceMethod (xnm 115) ∈ xWds := xW1 (List.mem_of_getElem? (i := 707) (by decide +kernel)) (by decide +kernel)
theorem nm_115 : (xnm 115).cls ≠ "java/lang/invoke/MethodHandle" ∧ (xnm 115).cls ≠ "java/lang/invoke/VarHandle" ∧ (parseMethodDescriptor (xnm 115).desc).map (fun d => d.parameters.length) = some 1 := by decide +kernel
theorem ns_115 : (xnm 115).name ≠ "<init>" ∧ (parseMethodDescriptor (xnm 115).desc).map (fun d => d.parameters.length) = some 1 := by decide +kernel
theorem cw_116 : xcw 116 = Cond.code (xnm 116) cJ5_putStringAt_47b60 3 none := rfl
theorem cm_116 : xcw 116 ∈ xWds := xW1 (List.mem_of_getElem? (i := 764) (by decide +kernel)) (by decide +kernel)
theorem ini_116 : Cond.initialized (xnm 116).cls ∈ xWds := xW1 (List.mem_of_getElem? (i := 25) (by decide +kernel)) (by decide +kernel)
theorem in_116 : Cond.instanceMethod (xnm 116) ∈ xWds := xW1 (List.mem_of_getElem? (i := 763) (by decide +kernel)) (by decide +kernel)
theorem nm_116 : (xnm 116).cls ≠ "java/lang/invoke/MethodHandle" ∧ (xnm 116).cls ≠ "java/lang/invoke/VarHandle" ∧ (parseMethodDescriptor (xnm 116).desc).map (fun d => d.parameters.length) = some 2 := by decide +kernel
theorem ns_116 : (xnm 116).name ≠ "<init>" ∧ (parseMethodDescriptor (xnm 116).desc).map (fun d => d.parameters.length) = some 2 := by decide +kernel
theorem cw_117 : xcw 117 = Cond.code (xnm 117) cJ6_getChars_ba4f3 7 (some .int) := rfl
theorem cm_117 : xcw 117 ∈ xWds := xW1 (List.mem_of_getElem? (i := 827) (by decide +kernel)) (by decide +kernel)
theorem ini_117 : Cond.initialized (xnm 117).cls ∈ xWds := xW1 (List.mem_of_getElem? (i := 31) (by decide +kernel)) (by decide +kernel)
theorem st_117 : Cond.static (xnm 117) ∈ xWds := xW1 (List.mem_of_getElem? (i := 826) (by decide +kernel)) (by decide +kernel)
theorem nm_117 : (xnm 117).cls ≠ "java/lang/invoke/MethodHandle" ∧ (xnm 117).cls ≠ "java/lang/invoke/VarHandle" ∧ (parseMethodDescriptor (xnm 117).desc).map (fun d => d.parameters.length) = some 3 := by decide +kernel
theorem ns_117 : (xnm 117).name ≠ "<init>" ∧ (parseMethodDescriptor (xnm 117).desc).map (fun d => d.parameters.length) = some 3 := by decide +kernel
theorem cw_118 : xcw 118 = Cond.code (xnm 118) cJ6_stringSize_0f7a4 4 (some .int) := rfl
theorem cm_118 : xcw 118 ∈ xWds := xW1 (List.mem_of_getElem? (i := 824) (by decide +kernel)) (by decide +kernel)
theorem ini_118 : Cond.initialized (xnm 118).cls ∈ xWds := xW1 (List.mem_of_getElem? (i := 31) (by decide +kernel)) (by decide +kernel)
theorem st_118 : Cond.static (xnm 118) ∈ xWds := xW1 (List.mem_of_getElem? (i := 823) (by decide +kernel)) (by decide +kernel)
theorem nm_118 : (xnm 118).cls ≠ "java/lang/invoke/MethodHandle" ∧ (xnm 118).cls ≠ "java/lang/invoke/VarHandle" ∧ (parseMethodDescriptor (xnm 118).desc).map (fun d => d.parameters.length) = some 1 := by decide +kernel
theorem ns_118 : (xnm 118).name ≠ "<init>" ∧ (parseMethodDescriptor (xnm 118).desc).map (fun d => d.parameters.length) = some 1 := by decide +kernel
theorem cw_119 : xcw 119 = Cond.code (xnm 119) cJ7_copyOf_1904c 2 (some (.array (.object "java/lang/Object"))) := rfl
theorem cm_119 : xcw 119 ∈ xWds := xW1 (List.mem_of_getElem? (i := 398) (by decide +kernel)) (by decide +kernel)
theorem ini_119 : Cond.initialized (xnm 119).cls ∈ xWds := xW1 (List.mem_of_getElem? (i := 19) (by decide +kernel)) (by decide +kernel)
theorem st_119 : Cond.static (xnm 119) ∈ xWds := xW1 (List.mem_of_getElem? (i := 397) (by decide +kernel)) (by decide +kernel)
theorem nm_119 : (xnm 119).cls ≠ "java/lang/invoke/MethodHandle" ∧ (xnm 119).cls ≠ "java/lang/invoke/VarHandle" ∧ (parseMethodDescriptor (xnm 119).desc).map (fun d => d.parameters.length) = some 2 := by decide +kernel
theorem ns_119 : (xnm 119).name ≠ "<init>" ∧ (parseMethodDescriptor (xnm 119).desc).map (fun d => d.parameters.length) = some 2 := by decide +kernel
theorem cw_120 : xcw 120 = Cond.code (xnm 120) cJ7_copyOf_6403c 4 (some (.array (.object "java/lang/Object"))) := rfl
theorem cm_120 : xcw 120 ∈ xWds := xW1 (List.mem_of_getElem? (i := 421) (by decide +kernel)) (by decide +kernel)
theorem ini_120 : Cond.initialized (xnm 120).cls ∈ xWds := xW1 (List.mem_of_getElem? (i := 19) (by decide +kernel)) (by decide +kernel)
theorem st_120 : Cond.static (xnm 120) ∈ xWds := xW1 (List.mem_of_getElem? (i := 420) (by decide +kernel)) (by decide +kernel)
theorem nm_120 : (xnm 120).cls ≠ "java/lang/invoke/MethodHandle" ∧ (xnm 120).cls ≠ "java/lang/invoke/VarHandle" ∧ (parseMethodDescriptor (xnm 120).desc).map (fun d => d.parameters.length) = some 3 := by decide +kernel
theorem ns_120 : (xnm 120).name ≠ "<init>" ∧ (parseMethodDescriptor (xnm 120).desc).map (fun d => d.parameters.length) = some 3 := by decide +kernel
theorem cw_121 : xcw 121 = Cond.code (xnm 121) cJ7_copyOf_9075b 3 (some (.array .byte)) := rfl
theorem cm_121 : xcw 121 ∈ xWds := xW1 (List.mem_of_getElem? (i := 713) (by decide +kernel)) (by decide +kernel)
theorem ini_121 : Cond.initialized (xnm 121).cls ∈ xWds := xW1 (List.mem_of_getElem? (i := 19) (by decide +kernel)) (by decide +kernel)
theorem st_121 : Cond.static (xnm 121) ∈ xWds := xW1 (List.mem_of_getElem? (i := 712) (by decide +kernel)) (by decide +kernel)
theorem nm_121 : (xnm 121).cls ≠ "java/lang/invoke/MethodHandle" ∧ (xnm 121).cls ≠ "java/lang/invoke/VarHandle" ∧ (parseMethodDescriptor (xnm 121).desc).map (fun d => d.parameters.length) = some 2 := by decide +kernel
theorem ns_121 : (xnm 121).name ≠ "<init>" ∧ (parseMethodDescriptor (xnm 121).desc).map (fun d => d.parameters.length) = some 2 := by decide +kernel
theorem cw_122 : xcw 122 = Cond.code (xnm 122) cJ8_newLength_cabcc 4 (some .int) := rfl
theorem cm_122 : xcw 122 ∈ xWds := xW1 (List.mem_of_getElem? (i := 388) (by decide +kernel)) (by decide +kernel)
theorem ini_122 : Cond.initialized (xnm 122).cls ∈ xWds := xW1 (List.mem_of_getElem? (i := 17) (by decide +kernel)) (by decide +kernel)
theorem st_122 : Cond.static (xnm 122) ∈ xWds := xW1 (List.mem_of_getElem? (i := 387) (by decide +kernel)) (by decide +kernel)
theorem nm_122 : (xnm 122).cls ≠ "java/lang/invoke/MethodHandle" ∧ (xnm 122).cls ≠ "java/lang/invoke/VarHandle" ∧ (parseMethodDescriptor (xnm 122).desc).map (fun d => d.parameters.length) = some 3 := by decide +kernel
theorem ns_122 : (xnm 122).name ≠ "<init>" ∧ (parseMethodDescriptor (xnm 122).desc).map (fun d => d.parameters.length) = some 3 := by decide +kernel
theorem cw_123 : xcw 123 = Cond.code (xnm 123) cJx4a65c_add_72be8 4 none := rfl
theorem cm_123 : xcw 123 ∈ xWds := xW1 (List.mem_of_getElem? (i := 377) (by decide +kernel)) (by decide +kernel)
theorem ini_123 : Cond.initialized (xnm 123).cls ∈ xWds := xW1 (List.mem_of_getElem? (i := 4) (by decide +kernel)) (by decide +kernel)
theorem in_123 : Cond.instanceMethod (xnm 123) ∈ xWds := xW1 (List.mem_of_getElem? (i := 376) (by decide +kernel)) (by decide +kernel)
theorem sel_123 : Cond.selects (xnm 123).cls (xnm 123) (xnm 123) ∈ xWds := xWds_in (List.mem_append_left _ (List.mem_of_getElem? (i := 5) (by decide +kernel))) (by decide +kernel)
theorem nm_123 : (xnm 123).cls ≠ "java/lang/invoke/MethodHandle" ∧ (xnm 123).cls ≠ "java/lang/invoke/VarHandle" ∧ (parseMethodDescriptor (xnm 123).desc).map (fun d => d.parameters.length) = some 3 := by decide +kernel
theorem ns_123 : (xnm 123).name ≠ "<init>" ∧ (parseMethodDescriptor (xnm 123).desc).map (fun d => d.parameters.length) = some 3 := by decide +kernel
theorem cw_124 : xcw 124 = Cond.code (xnm 124) cJx4a65c_add_9ea2d 2 (some .boolean) := rfl
theorem cm_124 : xcw 124 ∈ xWds := xW1 (List.mem_of_getElem? (i := 373) (by decide +kernel)) (by decide +kernel)
theorem ini_124 : Cond.initialized (xnm 124).cls ∈ xWds := xW1 (List.mem_of_getElem? (i := 4) (by decide +kernel)) (by decide +kernel)
theorem in_124 : Cond.instanceMethod (xnm 124) ∈ xWds := xW1 (List.mem_of_getElem? (i := 371) (by decide +kernel)) (by decide +kernel)
theorem sel_124 : Cond.selects (xnm 124).cls (xnm 124) (xnm 124) ∈ xWds := xW1 (List.mem_of_getElem? (i := 372) (by decide +kernel)) (by decide +kernel)
theorem nm_124 : (xnm 124).cls ≠ "java/lang/invoke/MethodHandle" ∧ (xnm 124).cls ≠ "java/lang/invoke/VarHandle" ∧ (parseMethodDescriptor (xnm 124).desc).map (fun d => d.parameters.length) = some 1 := by decide +kernel
theorem ns_124 : (xnm 124).name ≠ "<init>" ∧ (parseMethodDescriptor (xnm 124).desc).map (fun d => d.parameters.length) = some 1 := by decide +kernel
theorem cw_125 : xcw 125 = Cond.code (xnm 125) cJx4a65c_elementData_915e3 2 (some (.object "java/lang/Object")) := rfl
theorem cm_125 : xcw 125 ∈ xWds := xW1 (List.mem_of_getElem? (i := 226) (by decide +kernel)) (by decide +kernel)
theorem ini_125 : Cond.initialized (xnm 125).cls ∈ xWds := xW1 (List.mem_of_getElem? (i := 4) (by decide +kernel)) (by decide +kernel)
theorem in_125 : Cond.instanceMethod (xnm 125) ∈ xWds := xW1 (List.mem_of_getElem? (i := 224) (by decide +kernel)) (by decide +kernel)
theorem sel_125 : Cond.selects (xnm 125).cls (xnm 125) (xnm 125) ∈ xWds := xW1 (List.mem_of_getElem? (i := 225) (by decide +kernel)) (by decide +kernel)
theorem nm_125 : (xnm 125).cls ≠ "java/lang/invoke/MethodHandle" ∧ (xnm 125).cls ≠ "java/lang/invoke/VarHandle" ∧ (parseMethodDescriptor (xnm 125).desc).map (fun d => d.parameters.length) = some 1 := by decide +kernel
theorem ns_125 : (xnm 125).name ≠ "<init>" ∧ (parseMethodDescriptor (xnm 125).desc).map (fun d => d.parameters.length) = some 1 := by decide +kernel
theorem cw_126 : xcw 126 = Cond.code (xnm 126) cJx4a65c_fastRemove_b59b0 4 none := rfl
theorem cm_126 : xcw 126 ∈ xWds := xW1 (List.mem_of_getElem? (i := 618) (by decide +kernel)) (by decide +kernel)
theorem ini_126 : Cond.initialized (xnm 126).cls ∈ xWds := xW1 (List.mem_of_getElem? (i := 4) (by decide +kernel)) (by decide +kernel)
theorem in_126 : Cond.instanceMethod (xnm 126) ∈ xWds := xW1 (List.mem_of_getElem? (i := 617) (by decide +kernel)) (by decide +kernel)
theorem sel_126 : Cond.selects (xnm 126).cls (xnm 126) (xnm 126) ∈ xWds := xWds_in (List.mem_append_left _ (List.mem_of_getElem? (i := 10) (by decide +kernel))) (by decide +kernel)
theorem nm_126 : (xnm 126).cls ≠ "java/lang/invoke/MethodHandle" ∧ (xnm 126).cls ≠ "java/lang/invoke/VarHandle" ∧ (parseMethodDescriptor (xnm 126).desc).map (fun d => d.parameters.length) = some 2 := by decide +kernel
theorem ns_126 : (xnm 126).name ≠ "<init>" ∧ (parseMethodDescriptor (xnm 126).desc).map (fun d => d.parameters.length) = some 2 := by decide +kernel
theorem cw_127 : xcw 127 = Cond.code (xnm 127) cJx4a65c_get_915e3 2 (some (.object "java/lang/Object")) := rfl
theorem cm_127 : xcw 127 ∈ xWds := xW1 (List.mem_of_getElem? (i := 216) (by decide +kernel)) (by decide +kernel)
theorem ini_127 : Cond.initialized (xnm 127).cls ∈ xWds := xW1 (List.mem_of_getElem? (i := 4) (by decide +kernel)) (by decide +kernel)
theorem in_127 : Cond.instanceMethod (xnm 127) ∈ xWds := xW1 (List.mem_of_getElem? (i := 214) (by decide +kernel)) (by decide +kernel)
theorem sel_127 : Cond.selects (xnm 127).cls (xnm 127) (xnm 127) ∈ xWds := xW1 (List.mem_of_getElem? (i := 215) (by decide +kernel)) (by decide +kernel)
theorem nm_127 : (xnm 127).cls ≠ "java/lang/invoke/MethodHandle" ∧ (xnm 127).cls ≠ "java/lang/invoke/VarHandle" ∧ (parseMethodDescriptor (xnm 127).desc).map (fun d => d.parameters.length) = some 1 := by decide +kernel
theorem ns_127 : (xnm 127).name ≠ "<init>" ∧ (parseMethodDescriptor (xnm 127).desc).map (fun d => d.parameters.length) = some 1 := by decide +kernel
theorem cw_128 : xcw 128 = Cond.code (xnm 128) cJx4a65c_grow_92f84 4 (some (.array (.object "java/lang/Object"))) := rfl
theorem cm_128 : xcw 128 ∈ xWds := xW1 (List.mem_of_getElem? (i := 385) (by decide +kernel)) (by decide +kernel)
theorem ini_128 : Cond.initialized (xnm 128).cls ∈ xWds := xW1 (List.mem_of_getElem? (i := 4) (by decide +kernel)) (by decide +kernel)
theorem in_128 : Cond.instanceMethod (xnm 128) ∈ xWds := xW1 (List.mem_of_getElem? (i := 384) (by decide +kernel)) (by decide +kernel)
theorem sel_128 : Cond.selects (xnm 128).cls (xnm 128) (xnm 128) ∈ xWds := xWds_in (List.mem_append_left _ (List.mem_of_getElem? (i := 7) (by decide +kernel))) (by decide +kernel)
theorem nm_128 : (xnm 128).cls ≠ "java/lang/invoke/MethodHandle" ∧ (xnm 128).cls ≠ "java/lang/invoke/VarHandle" ∧ (parseMethodDescriptor (xnm 128).desc).map (fun d => d.parameters.length) = some 1 := by decide +kernel
theorem ns_128 : (xnm 128).name ≠ "<init>" ∧ (parseMethodDescriptor (xnm 128).desc).map (fun d => d.parameters.length) = some 1 := by decide +kernel
theorem cw_129 : xcw 129 = Cond.code (xnm 129) cJx4a65c_grow_d5877 1 (some (.array (.object "java/lang/Object"))) := rfl
theorem cm_129 : xcw 129 ∈ xWds := xW1 (List.mem_of_getElem? (i := 381) (by decide +kernel)) (by decide +kernel)
theorem ini_129 : Cond.initialized (xnm 129).cls ∈ xWds := xW1 (List.mem_of_getElem? (i := 4) (by decide +kernel)) (by decide +kernel)
theorem in_129 : Cond.instanceMethod (xnm 129) ∈ xWds := xW1 (List.mem_of_getElem? (i := 380) (by decide +kernel)) (by decide +kernel)
theorem sel_129 : Cond.selects (xnm 129).cls (xnm 129) (xnm 129) ∈ xWds := xWds_in (List.mem_append_left _ (List.mem_of_getElem? (i := 6) (by decide +kernel))) (by decide +kernel)
theorem nm_129 : (xnm 129).cls ≠ "java/lang/invoke/MethodHandle" ∧ (xnm 129).cls ≠ "java/lang/invoke/VarHandle" ∧ (parseMethodDescriptor (xnm 129).desc).map (fun d => d.parameters.length) = some 0 := by decide +kernel
theorem ns_129 : (xnm 129).name ≠ "<init>" ∧ (parseMethodDescriptor (xnm 129).desc).map (fun d => d.parameters.length) = some 0 := by decide +kernel
theorem cw_130 : xcw 130 = Cond.code (xnm 130) cJx4a65c_init_da8c8 1 none := rfl
theorem cm_130 : xcw 130 ∈ xWds := xW1 (List.mem_of_getElem? (i := 47) (by decide +kernel)) (by decide +kernel)
theorem ini_130 : Cond.initialized (xnm 130).cls ∈ xWds := xW1 (List.mem_of_getElem? (i := 4) (by decide +kernel)) (by decide +kernel)
theorem in_130 : Cond.instanceMethod (xnm 130) ∈ xWds := xW1 (List.mem_of_getElem? (i := 46) (by decide +kernel)) (by decide +kernel)
theorem nm_130 : (xnm 130).cls ≠ "java/lang/invoke/MethodHandle" ∧ (xnm 130).cls ≠ "java/lang/invoke/VarHandle" ∧ (parseMethodDescriptor (xnm 130).desc).map (fun d => d.parameters.length) = some 0 := by decide +kernel
theorem cw_131 : xcw 131 = Cond.code (xnm 131) cJx4a65c_isEmpty_aae02 1 (some .boolean) := rfl
theorem cm_131 : xcw 131 ∈ xWds := xW1 (List.mem_of_getElem? (i := 981) (by decide +kernel)) (by decide +kernel)
theorem ini_131 : Cond.initialized (xnm 131).cls ∈ xWds := xW1 (List.mem_of_getElem? (i := 4) (by decide +kernel)) (by decide +kernel)
theorem in_131 : Cond.instanceMethod (xnm 131) ∈ xWds := xW1 (List.mem_of_getElem? (i := 979) (by decide +kernel)) (by decide +kernel)
theorem sel_131 : Cond.selects (xnm 131).cls (xnm 131) (xnm 131) ∈ xWds := xW1 (List.mem_of_getElem? (i := 980) (by decide +kernel)) (by decide +kernel)
theorem nm_131 : (xnm 131).cls ≠ "java/lang/invoke/MethodHandle" ∧ (xnm 131).cls ≠ "java/lang/invoke/VarHandle" ∧ (parseMethodDescriptor (xnm 131).desc).map (fun d => d.parameters.length) = some 0 := by decide +kernel
theorem ns_131 : (xnm 131).name ≠ "<init>" ∧ (parseMethodDescriptor (xnm 131).desc).map (fun d => d.parameters.length) = some 0 := by decide +kernel
theorem cw_132 : xcw 132 = Cond.code (xnm 132) cJx4a65c_remove_915e3 4 (some (.object "java/lang/Object")) := rfl
theorem cm_132 : xcw 132 ∈ xWds := xW1 (List.mem_of_getElem? (i := 614) (by decide +kernel)) (by decide +kernel)
theorem ini_132 : Cond.initialized (xnm 132).cls ∈ xWds := xW1 (List.mem_of_getElem? (i := 4) (by decide +kernel)) (by decide +kernel)
theorem in_132 : Cond.instanceMethod (xnm 132) ∈ xWds := xW1 (List.mem_of_getElem? (i := 612) (by decide +kernel)) (by decide +kernel)
theorem sel_132 : Cond.selects (xnm 132).cls (xnm 132) (xnm 132) ∈ xWds := xW1 (List.mem_of_getElem? (i := 613) (by decide +kernel)) (by decide +kernel)
theorem nm_132 : (xnm 132).cls ≠ "java/lang/invoke/MethodHandle" ∧ (xnm 132).cls ≠ "java/lang/invoke/VarHandle" ∧ (parseMethodDescriptor (xnm 132).desc).map (fun d => d.parameters.length) = some 1 := by decide +kernel
theorem ns_132 : (xnm 132).name ≠ "<init>" ∧ (parseMethodDescriptor (xnm 132).desc).map (fun d => d.parameters.length) = some 1 := by decide +kernel
theorem cw_133 : xcw 133 = Cond.code (xnm 133) cJx4a65c_size_8abf5 1 (some .int) := rfl
theorem cm_133 : xcw 133 ∈ xWds := xW1 (List.mem_of_getElem? (i := 144) (by decide +kernel)) (by decide +kernel)
theorem ini_133 : Cond.initialized (xnm 133).cls ∈ xWds := xW1 (List.mem_of_getElem? (i := 4) (by decide +kernel)) (by decide +kernel)
theorem in_133 : Cond.instanceMethod (xnm 133) ∈ xWds := xW1 (List.mem_of_getElem? (i := 142) (by decide +kernel)) (by decide +kernel)
theorem sel_133 : Cond.selects (xnm 133).cls (xnm 133) (xnm 133) ∈ xWds := xW1 (List.mem_of_getElem? (i := 143) (by decide +kernel)) (by decide +kernel)
theorem nm_133 : (xnm 133).cls ≠ "java/lang/invoke/MethodHandle" ∧ (xnm 133).cls ≠ "java/lang/invoke/VarHandle" ∧ (parseMethodDescriptor (xnm 133).desc).map (fun d => d.parameters.length) = some 0 := by decide +kernel
theorem ns_133 : (xnm 133).name ≠ "<init>" ∧ (parseMethodDescriptor (xnm 133).desc).map (fun d => d.parameters.length) = some 0 := by decide +kernel
theorem cw_134 : xcw 134 = Cond.code (xnm 134) cJxa1e45_init_da8c8 1 none := rfl
theorem cm_134 : xcw 134 ∈ xWds := xW1 (List.mem_of_getElem? (i := 53) (by decide +kernel)) (by decide +kernel)
theorem ini_134 : Cond.initialized (xnm 134).cls ∈ xWds := xW1 (List.mem_of_getElem? (i := 2) (by decide +kernel)) (by decide +kernel)
theorem in_134 : Cond.instanceMethod (xnm 134) ∈ xWds := xW1 (List.mem_of_getElem? (i := 52) (by decide +kernel)) (by decide +kernel)
theorem nm_134 : (xnm 134).cls ≠ "java/lang/invoke/MethodHandle" ∧ (xnm 134).cls ≠ "java/lang/invoke/VarHandle" ∧ (parseMethodDescriptor (xnm 134).desc).map (fun d => d.parameters.length) = some 0 := by decide +kernel
theorem cw_135 : xcw 135 = Cond.code (xnm 135) cJxc12de_init_da8c8 1 none := rfl
theorem cm_135 : xcw 135 ∈ xWds := xW1 (List.mem_of_getElem? (i := 50) (by decide +kernel)) (by decide +kernel)
theorem ini_135 : Cond.initialized (xnm 135).cls ∈ xWds := xW1 (List.mem_of_getElem? (i := 3) (by decide +kernel)) (by decide +kernel)
theorem in_135 : Cond.instanceMethod (xnm 135) ∈ xWds := xW1 (List.mem_of_getElem? (i := 49) (by decide +kernel)) (by decide +kernel)
theorem nm_135 : (xnm 135).cls ≠ "java/lang/invoke/MethodHandle" ∧ (xnm 135).cls ≠ "java/lang/invoke/VarHandle" ∧ (parseMethodDescriptor (xnm 135).desc).map (fun d => d.parameters.length) = some 0 := by decide +kernel
theorem cw_147 : xcw 147 = Cond.code (xnm 147) cX10_wallNumbered 2 (some (.object "Stuccohand$Wall")) := rfl
theorem cm_147 : xcw 147 ∈ xWds := xW1 (List.mem_of_getElem? (i := 140) (by decide +kernel)) (by decide +kernel)
theorem ini_147 : Cond.initialized (xnm 147).cls ∈ xWds := xW1 (List.mem_of_getElem? (i := 1) (by decide +kernel)) (by decide +kernel)
theorem in_147 : Cond.instanceMethod (xnm 147) ∈ xWds := xW1 (List.mem_of_getElem? (i := 139) (by decide +kernel)) (by decide +kernel)
theorem sel_147 : Cond.selects (xnm 147).cls (xnm 147) (xnm 147) ∈ xWds := xWds_in (List.mem_append_left _ (List.mem_of_getElem? (i := 2) (by decide +kernel))) (by decide +kernel)
theorem nm_147 : (xnm 147).cls ≠ "java/lang/invoke/MethodHandle" ∧ (xnm 147).cls ≠ "java/lang/invoke/VarHandle" ∧ (parseMethodDescriptor (xnm 147).desc).map (fun d => d.parameters.length) = some 1 := by decide +kernel
theorem ns_147 : (xnm 147).name ≠ "<init>" ∧ (parseMethodDescriptor (xnm 147).desc).map (fun d => d.parameters.length) = some 1 := by decide +kernel
theorem cw_148 : xcw 148 = Cond.code (xnm 148) cX10_stripNumbered 4 (some (.object "Stuccohand$Strip")) := rfl
theorem cm_148 : xcw 148 ∈ xWds := xW1 (List.mem_of_getElem? (i := 136) (by decide +kernel)) (by decide +kernel)
theorem ini_148 : Cond.initialized (xnm 148).cls ∈ xWds := xW1 (List.mem_of_getElem? (i := 1) (by decide +kernel)) (by decide +kernel)
theorem in_148 : Cond.instanceMethod (xnm 148) ∈ xWds := xW1 (List.mem_of_getElem? (i := 135) (by decide +kernel)) (by decide +kernel)
theorem sel_148 : Cond.selects (xnm 148).cls (xnm 148) (xnm 148) ∈ xWds := xWds_in (List.mem_append_left _ (List.mem_of_getElem? (i := 1) (by decide +kernel))) (by decide +kernel)
theorem nm_148 : (xnm 148).cls ≠ "java/lang/invoke/MethodHandle" ∧ (xnm 148).cls ≠ "java/lang/invoke/VarHandle" ∧ (parseMethodDescriptor (xnm 148).desc).map (fun d => d.parameters.length) = some 2 := by decide +kernel
theorem ns_148 : (xnm 148).name ≠ "<init>" ∧ (parseMethodDescriptor (xnm 148).desc).map (fun d => d.parameters.length) = some 2 := by decide +kernel
theorem cw_149 : xcw 149 = Cond.code (xnm 149) cX10_coatNumbered 5 (some (.object "Stuccohand$Coat")) := rfl
theorem cm_149 : xcw 149 ∈ xWds := xW1 (List.mem_of_getElem? (i := 132) (by decide +kernel)) (by decide +kernel)
theorem ini_149 : Cond.initialized (xnm 149).cls ∈ xWds := xW1 (List.mem_of_getElem? (i := 1) (by decide +kernel)) (by decide +kernel)
theorem in_149 : Cond.instanceMethod (xnm 149) ∈ xWds := xW1 (List.mem_of_getElem? (i := 131) (by decide +kernel)) (by decide +kernel)
theorem sel_149 : Cond.selects (xnm 149).cls (xnm 149) (xnm 149) ∈ xWds := xWds_in (List.mem_append_left _ (List.mem_of_getElem? (i := 0) (by decide +kernel))) (by decide +kernel)
theorem nm_149 : (xnm 149).cls ≠ "java/lang/invoke/MethodHandle" ∧ (xnm 149).cls ≠ "java/lang/invoke/VarHandle" ∧ (parseMethodDescriptor (xnm 149).desc).map (fun d => d.parameters.length) = some 3 := by decide +kernel
theorem ns_149 : (xnm 149).name ≠ "<init>" ∧ (parseMethodDescriptor (xnm 149).desc).map (fun d => d.parameters.length) = some 3 := by decide +kernel
theorem cw_150 : xcw 150 = Cond.code (xnm 150) cX10_ofCoat 6 (some .int) := rfl
theorem cm_150 : xcw 150 ∈ xWds := xW1 (List.mem_of_getElem? (i := 128) (by decide +kernel)) (by decide +kernel)
theorem ini_150 : Cond.initialized (xnm 150).cls ∈ xWds := xW1 (List.mem_of_getElem? (i := 1) (by decide +kernel)) (by decide +kernel)
theorem in_150 : Cond.instanceMethod (xnm 150) ∈ xWds := xW1 (List.mem_of_getElem? (i := 126) (by decide +kernel)) (by decide +kernel)
theorem sel_150 : Cond.selects (xnm 150).cls (xnm 150) (xnm 150) ∈ xWds := xW1 (List.mem_of_getElem? (i := 127) (by decide +kernel)) (by decide +kernel)
theorem nm_150 : (xnm 150).cls ≠ "java/lang/invoke/MethodHandle" ∧ (xnm 150).cls ≠ "java/lang/invoke/VarHandle" ∧ (parseMethodDescriptor (xnm 150).desc).map (fun d => d.parameters.length) = some 4 := by decide +kernel
theorem ns_150 : (xnm 150).name ≠ "<init>" ∧ (parseMethodDescriptor (xnm 150).desc).map (fun d => d.parameters.length) = some 4 := by decide +kernel
