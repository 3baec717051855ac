/-! the tables' words that are used (printed by wip/gen/gen31.py) -/
theorem w_same : Cond.sameField "java/util/ArrayList" (TJx4a65c 0).1 (TJx4a65c 0).2.1 (TJx4a65c 0).2.2.1 ∈ xWds := xW1 (List.mem_of_getElem? (i := 62) (by decide +kernel)) (by decide +kernel)
theorem w_acn : Cond.native arraycopyName ∈ xWds := xW1 (List.mem_of_getElem? (i := 334) (by decide +kernel)) (by decide +kernel)
theorem w_acs : Cond.static arraycopyName ∈ xWds := xW1 (List.mem_of_getElem? (i := 333) (by decide +kernel)) (by decide +kernel)
theorem w_aci : Cond.initialized "java/lang/System" ∈ xWds := xW1 (List.mem_of_getElem? (i := 18) (by decide +kernel)) (by decide +kernel)
theorem w_mini : Cond.initialized "java/lang/Math" ∈ xWds := xW1 (List.mem_of_getElem? (i := 16) (by decide +kernel)) (by decide +kernel)
theorem w_mmax1 : Cond.static Lib.Math.max.name ∈ xWds := xW1 (List.mem_of_getElem? (i := 293) (by decide +kernel)) (by decide +kernel)
theorem w_mmax2 : Cond.code Lib.Math.max.name Lib.Math.max.code 2 (some .int) ∈ xWds := xW1 (List.mem_of_getElem? (i := 294) (by decide +kernel)) (by decide +kernel)
theorem w_mmin1 : Cond.static Lib.Math.min.name ∈ xWds := xW1 (List.mem_of_getElem? (i := 330) (by decide +kernel)) (by decide +kernel)
theorem w_mmin2 : Cond.code Lib.Math.min.name Lib.Math.min.code 2 (some .int) ∈ xWds := xW1 (List.mem_of_getElem? (i := 331) (by decide +kernel)) (by decide +kernel)
theorem w_obi : Cond.instanceMethod objectInit ∈ xWds := xW1 (List.mem_of_getElem? (i := 42) (by decide +kernel)) (by decide +kernel)
theorem w_obc : Cond.code objectInit ⟨#[0xb1]⟩ 1 none ∈ xWds := xW1 (List.mem_of_getElem? (i := 43) (by decide +kernel)) (by decide +kernel)
theorem w_gcs : Cond.selects "[Ljava/lang/Object;" ⟨"java/lang/Object", "getClass", "()Ljava/lang/Class;"⟩ ⟨"java/lang/Object", "getClass", "()Ljava/lang/Class;"⟩ ∈ xWds := xW1 (List.mem_of_getElem? (i := 1459) (by decide +kernel)) (by decide +kernel)
theorem w_gci : Cond.instanceMethod ⟨"java/lang/Object", "getClass", "()Ljava/lang/Class;"⟩ ∈ xWds := xW1 (List.mem_of_getElem? (i := 303) (by decide +kernel)) (by decide +kernel)
theorem w_gcn : Cond.native ⟨"java/lang/Object", "getClass", "()Ljava/lang/Class;"⟩ ∈ xWds := xW1 (List.mem_of_getElem? (i := 322) (by decide +kernel)) (by decide +kernel)
abbrev xoks : List Nat := [2, 3, 6, 7, 8, 9]
theorem xoks_ok : ∀ ci ∈ xoks, ∃ C T N, vwCl[ci]? = some (C, T, N) ∧ (C, "java/lang/Object") ∈ xCasts := by
  intro ci h
  simp only [xoks, List.mem_cons, List.not_mem_nil, or_false] at h
  rcases h with rfl | rfl | rfl | rfl | rfl | rfl <;> exact ⟨_, _, _, rfl, by decide +kernel⟩
theorem xthr0_a : ∀ w ∈ (vx_atS RX10 47 (xEx 0) ["java/lang/RuntimeException", "java/lang/Exception"]).filter goodWord, w ∈ lw_tbl := by decide +kernel
theorem xthr0_b : ∀ w ∈ (vx_atS RX10 47 (xEx 0) ["java/lang/RuntimeException", "java/lang/Exception"]).filter (fun w => !goodWord w), w ∈ xBad 0 := by decide +kernel
theorem xthr0_c : ∀ w ∈ Cond.classLink RX10 43 (xEx 0) :: Cond.initialized (xEx 0) :: vx_atS RX10 47 (xEx 0) ["java/lang/RuntimeException", "java/lang/Exception"], vx_ot w = true := by decide +kernel
theorem xthr1_a : ∀ w ∈ (vx_atS RX10 64 (xEx 1) ["java/lang/RuntimeException", "java/lang/Exception"]).filter goodWord, w ∈ lw_tbl := by decide +kernel
theorem xthr1_b : ∀ w ∈ (vx_atS RX10 64 (xEx 1) ["java/lang/RuntimeException", "java/lang/Exception"]).filter (fun w => !goodWord w), w ∈ xBad 1 := by decide +kernel
theorem xthr1_c : ∀ w ∈ Cond.classLink RX10 60 (xEx 1) :: Cond.initialized (xEx 1) :: vx_atS RX10 64 (xEx 1) ["java/lang/RuntimeException", "java/lang/Exception"], vx_ot w = true := by decide +kernel
theorem xthr2_a : ∀ w ∈ (vx_atS RX10 98 (xEx 2) ["java/lang/RuntimeException", "java/lang/Exception"]).filter goodWord, w ∈ lw_tbl := by decide +kernel
theorem xthr2_b : ∀ w ∈ (vx_atS RX10 98 (xEx 2) ["java/lang/RuntimeException", "java/lang/Exception"]).filter (fun w => !goodWord w), w ∈ xBad 2 := by decide +kernel
theorem xthr2_c : ∀ w ∈ Cond.classLink RX10 94 (xEx 2) :: Cond.initialized (xEx 2) :: vx_atS RX10 98 (xEx 2) ["java/lang/RuntimeException", "java/lang/Exception"], vx_ot w = true := by decide +kernel
theorem inX_J4 : ∀ w ∈ u_ws RJ4 TJ4 4, w ∈ xWds := by decide +kernel
theorem inX_Jx4a65c : ∀ w ∈ u_ws RJx4a65c TJx4a65c 3, w ∈ xWds := by decide +kernel
theorem inX_X0 : ∀ w ∈ u_ws RX0 TX0 6, w ∈ xWds := by decide +kernel
theorem inX_X1 : ∀ w ∈ u_ws RX1 TX1 4, w ∈ xWds := by decide +kernel
theorem inX_X10 : ∀ w ∈ u_ws RX10 TX10 7, w ∈ xWds := by decide +kernel
theorem inX_X11 : ∀ w ∈ u_ws RX11 TX11 27, w ∈ xWds := by decide +kernel
theorem inX_X2 : ∀ w ∈ u_ws RX2 TX2 4, w ∈ xWds := by decide +kernel
theorem inX_X4 : ∀ w ∈ u_ws RX4 TX4 1, w ∈ xWds := by decide +kernel
theorem inX_X5 : ∀ w ∈ u_ws RX5 TX5 2, w ∈ xWds := by decide +kernel
theorem inX_X7 : ∀ w ∈ u_ws RX7 TX7 2, w ∈ xWds := by decide +kernel
theorem inX_X8 : ∀ w ∈ u_ws RX8 TX8 3, w ∈ xWds := by decide +kernel
theorem inX_X9 : ∀ w ∈ u_ws RX9 TX9 2, w ∈ xWds := by decide +kernel
theorem w_prv_167 : Cond.selects "java/lang/StringBuilder" (xnm 167) (xnm 167) ∈ xWds := xWp (by decide +kernel) (by decide +kernel)
theorem w_prv_169 : Cond.selects "java/lang/StringBuilder" (xnm 169) (xnm 169) ∈ xWds := xWp (by decide +kernel) (by decide +kernel)
theorem w_prv_172 : Cond.selects "java/lang/StringBuilder" (xnm 172) (xnm 172) ∈ xWds := xWp (by decide +kernel) (by decide +kernel)
theorem w_prv_173 : Cond.selects "java/lang/StringBuilder" (xnm 173) (xnm 173) ∈ xWds := xWp (by decide +kernel) (by decide +kernel)
theorem w_4 : Cond.initialized "java/util/ArrayList" ∈ xWds := xW1 (List.mem_of_getElem? (i := 4) (by decide +kernel)) (by decide +kernel)
theorem w_5 : Cond.initialized "Stuccohand$Log" ∈ xWds := xW1 (List.mem_of_getElem? (i := 5) (by decide +kernel)) (by decide +kernel)
theorem w_6 : Cond.initialized "Stuccohand$Fresco" ∈ xWds := xW1 (List.mem_of_getElem? (i := 6) (by decide +kernel)) (by decide +kernel)
theorem w_11 : Cond.initialized (xEx 0) ∈ xWds := xW1 (List.mem_of_getElem? (i := 11) (by decide +kernel)) (by decide +kernel)
theorem w_12 : Cond.initialized (xEx 1) ∈ xWds := xW1 (List.mem_of_getElem? (i := 12) (by decide +kernel)) (by decide +kernel)
theorem w_13 : Cond.initialized "Stuccohand$Wall" ∈ xWds := xW1 (List.mem_of_getElem? (i := 13) (by decide +kernel)) (by decide +kernel)
theorem w_14 : Cond.initialized "Stuccohand$Strip" ∈ xWds := xW1 (List.mem_of_getElem? (i := 14) (by decide +kernel)) (by decide +kernel)
theorem w_19 : Cond.initialized (xEx 2) ∈ xWds := xW1 (List.mem_of_getElem? (i := 19) (by decide +kernel)) (by decide +kernel)
theorem w_22 : Cond.initialized "Stuccohand$Entry" ∈ xWds := xW1 (List.mem_of_getElem? (i := 22) (by decide +kernel)) (by decide +kernel)
theorem w_23 : Cond.initialized "Stuccohand$Coat" ∈ xWds := xW1 (List.mem_of_getElem? (i := 23) (by decide +kernel)) (by decide +kernel)
theorem w_27 : Cond.initialized "java/lang/StringBuilder" ∈ xWds := xW1 (List.mem_of_getElem? (i := 27) (by decide +kernel)) (by decide +kernel)
theorem w_33 : Cond.initialized "Stuccohand$Profile" ∈ xWds := xW1 (List.mem_of_getElem? (i := 33) (by decide +kernel)) (by decide +kernel)
theorem w_34 : Cond.initialized "Stuccohand$Patch" ∈ xWds := xW1 (List.mem_of_getElem? (i := 34) (by decide +kernel)) (by decide +kernel)
theorem w_41 : Cond.methodLink RX10 1 objectInit ∈ xWds := xW1 (List.mem_of_getElem? (i := 41) (by decide +kernel)) (by decide +kernel)
theorem w_44 : Cond.classLink RX10 7 "java/util/ArrayList" ∈ xWds := xW1 (List.mem_of_getElem? (i := 44) (by decide +kernel)) (by decide +kernel)
theorem w_45 : Cond.instantiable "java/util/ArrayList" 3 ∈ xWds := xW1 (List.mem_of_getElem? (i := 45) (by decide +kernel)) (by decide +kernel)
theorem w_46 : Cond.methodLink RX10 9 (xnm 187) ∈ xWds := xW1 (List.mem_of_getElem? (i := 46) (by decide +kernel)) (by decide +kernel)
theorem w_49 : Cond.methodLink RJx4a65c 1 (xnm 192) ∈ xWds := xW1 (List.mem_of_getElem? (i := 49) (by decide +kernel)) (by decide +kernel)
theorem w_52 : Cond.methodLink RJxc12de 1 (xnm 191) ∈ xWds := xW1 (List.mem_of_getElem? (i := 52) (by decide +kernel)) (by decide +kernel)
theorem w_55 : Cond.methodLink RJxa1e45 1 objectInit ∈ xWds := xW1 (List.mem_of_getElem? (i := 55) (by decide +kernel)) (by decide +kernel)
theorem w_56 : Cond.fieldLink RJx4a65c 39 "java/util/ArrayList" "DEFAULTCAPACITY_EMPTY_ELEMENTDATA" "[Ljava/lang/Object;" ∈ xWds := xW1 (List.mem_of_getElem? (i := 56) (by decide +kernel)) (by decide +kernel)
theorem w_58 : Cond.fieldLink RJx4a65c 9 "java/util/ArrayList" (TJx4a65c 1).2.1 (TJx4a65c 1).2.2.1 ∈ xWds := xW1 (List.mem_of_getElem? (i := 58) (by decide +kernel)) (by decide +kernel)
theorem w_59 : Cond.fieldLink RJx4a65c 48 "java/util/ArrayList" (TJx4a65c 2).2.1 (TJx4a65c 2).2.2.1 ∈ xWds := xW1 (List.mem_of_getElem? (i := 59) (by decide +kernel)) (by decide +kernel)
theorem w_60 : Cond.fieldLink RJxc12de 7 "java/util/AbstractList" (TJx4a65c 0).2.1 (TJx4a65c 0).2.2.1 ∈ xWds := xW1 (List.mem_of_getElem? (i := 60) (by decide +kernel)) (by decide +kernel)
theorem w_61 : Cond.fieldLink RJx4a65c 63 "java/util/ArrayList" (TJx4a65c 0).2.1 (TJx4a65c 0).2.2.1 ∈ xWds := xW1 (List.mem_of_getElem? (i := 61) (by decide +kernel)) (by decide +kernel)
theorem w_70 : Cond.classLink RX10 16 "Stuccohand$Log" ∈ xWds := xW1 (List.mem_of_getElem? (i := 70) (by decide +kernel)) (by decide +kernel)
theorem w_71 : Cond.instantiable "Stuccohand$Log" 1 ∈ xWds := xW1 (List.mem_of_getElem? (i := 71) (by decide +kernel)) (by decide +kernel)
theorem w_72 : Cond.methodLink RX10 18 (xnm 21) ∈ xWds := xW1 (List.mem_of_getElem? (i := 72) (by decide +kernel)) (by decide +kernel)
theorem w_75 : Cond.methodLink RX4 3 objectInit ∈ xWds := xW1 (List.mem_of_getElem? (i := 75) (by decide +kernel)) (by decide +kernel)
theorem w_76 : Cond.classLink RX4 9 "java/util/ArrayList" ∈ xWds := xW1 (List.mem_of_getElem? (i := 76) (by decide +kernel)) (by decide +kernel)
theorem w_77 : Cond.methodLink RX4 11 (xnm 187) ∈ xWds := xW1 (List.mem_of_getElem? (i := 77) (by decide +kernel)) (by decide +kernel)
theorem w_78 : Cond.fieldLink RX4 12 "Stuccohand$Log" (TX4 0).2.1 (TX4 0).2.2.1 ∈ xWds := xW1 (List.mem_of_getElem? (i := 78) (by decide +kernel)) (by decide +kernel)
theorem w_82 : Cond.classLink RX10 26 "Stuccohand$Fresco" ∈ xWds := xW1 (List.mem_of_getElem? (i := 82) (by decide +kernel)) (by decide +kernel)
theorem w_83 : Cond.instantiable "Stuccohand$Fresco" 4 ∈ xWds := xW1 (List.mem_of_getElem? (i := 83) (by decide +kernel)) (by decide +kernel)
theorem w_84 : Cond.methodLink RX10 28 (xnm 8) ∈ xWds := xW1 (List.mem_of_getElem? (i := 84) (by decide +kernel)) (by decide +kernel)
theorem w_87 : Cond.methodLink RX2 3 objectInit ∈ xWds := xW1 (List.mem_of_getElem? (i := 87) (by decide +kernel)) (by decide +kernel)
theorem w_88 : Cond.classLink RX2 9 "java/util/ArrayList" ∈ xWds := xW1 (List.mem_of_getElem? (i := 88) (by decide +kernel)) (by decide +kernel)
theorem w_89 : Cond.methodLink RX2 11 (xnm 187) ∈ xWds := xW1 (List.mem_of_getElem? (i := 89) (by decide +kernel)) (by decide +kernel)
theorem w_90 : Cond.fieldLink RX2 12 "Stuccohand$Fresco" (TX2 0).2.1 (TX2 0).2.2.1 ∈ xWds := xW1 (List.mem_of_getElem? (i := 90) (by decide +kernel)) (by decide +kernel)
theorem w_91 : Cond.fieldLink RX2 18 "Stuccohand$Fresco" (TX2 1).2.1 (TX2 1).2.2.1 ∈ xWds := xW1 (List.mem_of_getElem? (i := 91) (by decide +kernel)) (by decide +kernel)
theorem w_92 : Cond.fieldLink RX2 22 "Stuccohand$Fresco" (TX2 2).2.1 (TX2 2).2.2.1 ∈ xWds := xW1 (List.mem_of_getElem? (i := 92) (by decide +kernel)) (by decide +kernel)
theorem w_93 : Cond.fieldLink RX2 56 "Stuccohand$Fresco" (TX2 3).2.1 (TX2 3).2.2.1 ∈ xWds := xW1 (List.mem_of_getElem? (i := 93) (by decide +kernel)) (by decide +kernel)
theorem w_103 : Cond.arrayClass .int ∈ xWds := xW1 (List.mem_of_getElem? (i := 103) (by decide +kernel)) (by decide +kernel)
theorem w_104 : Cond.fieldLink RX10 10 "Stuccohand" (TX10 0).2.1 (TX10 0).2.2.1 ∈ xWds := xW1 (List.mem_of_getElem? (i := 104) (by decide +kernel)) (by decide +kernel)
theorem w_105 : Cond.fieldLink RX10 19 "Stuccohand" (TX10 1).2.1 (TX10 1).2.2.1 ∈ xWds := xW1 (List.mem_of_getElem? (i := 105) (by decide +kernel)) (by decide +kernel)
theorem w_106 : Cond.fieldLink RX10 23 "Stuccohand" (TX10 2).2.1 (TX10 2).2.2.1 ∈ xWds := xW1 (List.mem_of_getElem? (i := 106) (by decide +kernel)) (by decide +kernel)
theorem w_107 : Cond.fieldLink RX10 29 "Stuccohand" (TX10 3).2.1 (TX10 3).2.2.1 ∈ xWds := xW1 (List.mem_of_getElem? (i := 107) (by decide +kernel)) (by decide +kernel)
theorem w_108 : Cond.fieldLink RX10 33 "Stuccohand" (TX10 4).2.1 (TX10 4).2.2.1 ∈ xWds := xW1 (List.mem_of_getElem? (i := 108) (by decide +kernel)) (by decide +kernel)
theorem w_109 : Cond.fieldLink RX10 37 "Stuccohand" (TX10 5).2.1 (TX10 5).2.2.1 ∈ xWds := xW1 (List.mem_of_getElem? (i := 109) (by decide +kernel)) (by decide +kernel)
theorem w_110 : Cond.fieldLink RX10 40 "Stuccohand" (TX10 6).2.1 (TX10 6).2.2.1 ∈ xWds := xW1 (List.mem_of_getElem? (i := 110) (by decide +kernel)) (by decide +kernel)
theorem w_130 : Cond.constantLong RX10 282 (281474976710655 : Int64) ∈ xWds := xW1 (List.mem_of_getElem? (i := 130) (by decide +kernel)) (by decide +kernel)
theorem w_131 : Cond.methodLink RX10 345 (xnm 88) ∈ xWds := xW1 (List.mem_of_getElem? (i := 131) (by decide +kernel)) (by decide +kernel)
theorem w_134 : Cond.methodLink RX10 330 (xnm 84) ∈ xWds := xW1 (List.mem_of_getElem? (i := 134) (by decide +kernel)) (by decide +kernel)
theorem w_137 : Cond.constantLong RX10 383 (-1103823438082 : Int64) ∈ xWds := xW1 (List.mem_of_getElem? (i := 137) (by decide +kernel)) (by decide +kernel)
theorem w_138 : Cond.constantLong RX10 385 (-141289400074369 : Int64) ∈ xWds := xW1 (List.mem_of_getElem? (i := 138) (by decide +kernel)) (by decide +kernel)
theorem w_139 : Cond.methodLink RX10 312 (xnm 152) ∈ xWds := xW1 (List.mem_of_getElem? (i := 139) (by decide +kernel)) (by decide +kernel)
theorem w_142 : Cond.constantLong RJ13 314 (6148914691236517205 : Int64) ∈ xWds := xW1 (List.mem_of_getElem? (i := 142) (by decide +kernel)) (by decide +kernel)
theorem w_143 : Cond.constantLong RJ13 316 (3689348814741910323 : Int64) ∈ xWds := xW1 (List.mem_of_getElem? (i := 143) (by decide +kernel)) (by decide +kernel)
theorem w_144 : Cond.constantLong RJ13 318 (1085102592571150095 : Int64) ∈ xWds := xW1 (List.mem_of_getElem? (i := 144) (by decide +kernel)) (by decide +kernel)
theorem w_145 : Cond.constantLong RX10 349 (-1 : Int64) ∈ xWds := xW1 (List.mem_of_getElem? (i := 145) (by decide +kernel)) (by decide +kernel)
theorem w_149 : Cond.classLink RL 13 "java/lang/IllegalArgumentException" ∈ xWds := xW1 (List.mem_of_getElem? (i := 149) (by decide +kernel)) (by decide +kernel)
theorem w_150 : Cond.classLink RL 15 "java/lang/IllegalStateException" ∈ xWds := xW1 (List.mem_of_getElem? (i := 150) (by decide +kernel)) (by decide +kernel)
theorem w_151 : Cond.methodLink RL 7 (xnm 51) ∈ xWds := xW1 (List.mem_of_getElem? (i := 151) (by decide +kernel)) (by decide +kernel)
theorem w_155 : Cond.classLink RX10 43 (xEx 0) ∈ xWds := xW1 (List.mem_of_getElem? (i := 155) (by decide +kernel)) (by decide +kernel)
theorem w_222 : Cond.arrayClass .byte ∈ xWds := xW1 (List.mem_of_getElem? (i := 222) (by decide +kernel)) (by decide +kernel)
theorem w_223 : Cond.fieldLink RX10 50 "Stuccohand" "GROUNDS" "[LStuccohand$Ground;" ∈ xWds := xW1 (List.mem_of_getElem? (i := 223) (by decide +kernel)) (by decide +kernel)
theorem w_226 : Cond.methodLink RX10 56 (xnm 190) ∈ xWds := xW1 (List.mem_of_getElem? (i := 226) (by decide +kernel)) (by decide +kernel)
theorem w_230 : Cond.classLink RX10 60 (xEx 1) ∈ xWds := xW1 (List.mem_of_getElem? (i := 230) (by decide +kernel)) (by decide +kernel)
theorem w_246 : Cond.classLink RX10 65 "Stuccohand$Wall" ∈ xWds := xW1 (List.mem_of_getElem? (i := 246) (by decide +kernel)) (by decide +kernel)
theorem w_247 : Cond.instantiable "Stuccohand$Wall" 2 ∈ xWds := xW1 (List.mem_of_getElem? (i := 247) (by decide +kernel)) (by decide +kernel)
theorem w_248 : Cond.methodLink RX10 67 (xnm 40) ∈ xWds := xW1 (List.mem_of_getElem? (i := 248) (by decide +kernel)) (by decide +kernel)
theorem w_251 : Cond.methodLink RX9 1 objectInit ∈ xWds := xW1 (List.mem_of_getElem? (i := 251) (by decide +kernel)) (by decide +kernel)
theorem w_252 : Cond.classLink RX9 7 "java/util/ArrayList" ∈ xWds := xW1 (List.mem_of_getElem? (i := 252) (by decide +kernel)) (by decide +kernel)
theorem w_253 : Cond.methodLink RX9 9 (xnm 187) ∈ xWds := xW1 (List.mem_of_getElem? (i := 253) (by decide +kernel)) (by decide +kernel)
theorem w_254 : Cond.classLink RX9 16 "Stuccohand$Strip" ∈ xWds := xW1 (List.mem_of_getElem? (i := 254) (by decide +kernel)) (by decide +kernel)
theorem w_255 : Cond.instantiable "Stuccohand$Strip" 3 ∈ xWds := xW1 (List.mem_of_getElem? (i := 255) (by decide +kernel)) (by decide +kernel)
theorem w_256 : Cond.methodLink RX9 18 (xnm 30) ∈ xWds := xW1 (List.mem_of_getElem? (i := 256) (by decide +kernel)) (by decide +kernel)
theorem w_259 : Cond.methodLink RX8 3 objectInit ∈ xWds := xW1 (List.mem_of_getElem? (i := 259) (by decide +kernel)) (by decide +kernel)
theorem w_260 : Cond.classLink RX8 15 "java/util/ArrayList" ∈ xWds := xW1 (List.mem_of_getElem? (i := 260) (by decide +kernel)) (by decide +kernel)
theorem w_261 : Cond.methodLink RX8 17 (xnm 187) ∈ xWds := xW1 (List.mem_of_getElem? (i := 261) (by decide +kernel)) (by decide +kernel)
theorem w_262 : Cond.fieldLink RX8 9 "Stuccohand$Strip" (TX8 0).2.1 (TX8 0).2.2.1 ∈ xWds := xW1 (List.mem_of_getElem? (i := 262) (by decide +kernel)) (by decide +kernel)
theorem w_263 : Cond.fieldLink RX8 18 "Stuccohand$Strip" (TX8 1).2.1 (TX8 1).2.2.1 ∈ xWds := xW1 (List.mem_of_getElem? (i := 263) (by decide +kernel)) (by decide +kernel)
theorem w_264 : Cond.fieldLink RX10 99 "Stuccohand$Strip" (TX8 2).2.1 (TX8 2).2.2.1 ∈ xWds := xW1 (List.mem_of_getElem? (i := 264) (by decide +kernel)) (by decide +kernel)
theorem w_265 : Cond.fieldLink RX9 59 "Stuccohand$Strip" (TX8 2).2.1 (TX8 2).2.2.1 ∈ xWds := xW1 (List.mem_of_getElem? (i := 265) (by decide +kernel)) (by decide +kernel)
theorem w_273 : Cond.methodLink RX9 21 (xnm 181) ∈ xWds := xW1 (List.mem_of_getElem? (i := 273) (by decide +kernel)) (by decide +kernel)
theorem w_277 : Cond.methodLink RJx4a65c 131 (xnm 180) ∈ xWds := xW1 (List.mem_of_getElem? (i := 277) (by decide +kernel)) (by decide +kernel)
theorem w_281 : Cond.methodLink RJx4a65c 129 (xnm 186) ∈ xWds := xW1 (List.mem_of_getElem? (i := 281) (by decide +kernel)) (by decide +kernel)
theorem w_285 : Cond.methodLink RJx4a65c 69 (xnm 185) ∈ xWds := xW1 (List.mem_of_getElem? (i := 285) (by decide +kernel)) (by decide +kernel)
theorem w_289 : Cond.methodLink RJx4a65c 73 (xnm 179) ∈ xWds := xW1 (List.mem_of_getElem? (i := 289) (by decide +kernel)) (by decide +kernel)
theorem w_292 : Cond.methodLink RJ8 194 Lib.Math.max.name ∈ xWds := xW1 (List.mem_of_getElem? (i := 292) (by decide +kernel)) (by decide +kernel)
theorem w_295 : Cond.constant RJ8 200 (2147483639 : Int32) ∈ xWds := xW1 (List.mem_of_getElem? (i := 295) (by decide +kernel)) (by decide +kernel)
theorem w_299 : Cond.methodLink RJx4a65c 66 (xnm 176) ∈ xWds := xW1 (List.mem_of_getElem? (i := 299) (by decide +kernel)) (by decide +kernel)
theorem w_302 : Cond.methodLink RJ7 86 ⟨"java/lang/Object", "getClass", "()Ljava/lang/Class;"⟩ ∈ xWds := xW1 (List.mem_of_getElem? (i := 302) (by decide +kernel)) (by decide +kernel)
theorem w_323 : Cond.methodLink RJ7 300 (xnm 177) ∈ xWds := xW1 (List.mem_of_getElem? (i := 323) (by decide +kernel)) (by decide +kernel)
theorem w_326 : Cond.classLink RJ7 110 "[Ljava/lang/Object;" ∈ xWds := xW1 (List.mem_of_getElem? (i := 326) (by decide +kernel)) (by decide +kernel)
theorem w_328 : Cond.classLink RJ7 2 "java/lang/Object" ∈ xWds := xW1 (List.mem_of_getElem? (i := 328) (by decide +kernel)) (by decide +kernel)
theorem w_329 : Cond.methodLink RJ7 304 Lib.Math.min.name ∈ xWds := xW1 (List.mem_of_getElem? (i := 329) (by decide +kernel)) (by decide +kernel)
theorem w_332 : Cond.methodLink RJ7 150 arraycopyName ∈ xWds := xW1 (List.mem_of_getElem? (i := 332) (by decide +kernel)) (by decide +kernel)
theorem w_335 : Cond.methodLink RJx4a65c 79 Lib.Math.max.name ∈ xWds := xW1 (List.mem_of_getElem? (i := 335) (by decide +kernel)) (by decide +kernel)
theorem w_336 : Cond.classLink RJx4a65c 7 "java/lang/Object" ∈ xWds := xW1 (List.mem_of_getElem? (i := 336) (by decide +kernel)) (by decide +kernel)
theorem w_337 : Cond.fieldLink RX9 10 "Stuccohand$Wall" (TX9 0).2.1 (TX9 0).2.2.1 ∈ xWds := xW1 (List.mem_of_getElem? (i := 337) (by decide +kernel)) (by decide +kernel)
theorem w_338 : Cond.fieldLink RX10 84 "Stuccohand$Wall" (TX9 1).2.1 (TX9 1).2.2.1 ∈ xWds := xW1 (List.mem_of_getElem? (i := 338) (by decide +kernel)) (by decide +kernel)
theorem w_339 : Cond.fieldLink RX9 73 "Stuccohand$Wall" (TX9 1).2.1 (TX9 1).2.2.1 ∈ xWds := xW1 (List.mem_of_getElem? (i := 339) (by decide +kernel)) (by decide +kernel)
theorem w_345 : Cond.methodLink RX10 70 (xnm 181) ∈ xWds := xW1 (List.mem_of_getElem? (i := 345) (by decide +kernel)) (by decide +kernel)
theorem w_349 : Cond.methodLink RL 17 (xnm 52) ∈ xWds := xW1 (List.mem_of_getElem? (i := 349) (by decide +kernel)) (by decide +kernel)
theorem w_358 : Cond.classLink RL 24 "java/lang/IndexOutOfBoundsException" ∈ xWds := xW1 (List.mem_of_getElem? (i := 358) (by decide +kernel)) (by decide +kernel)
theorem w_359 : Cond.methodLink RL 21 (xnm 54) ∈ xWds := xW1 (List.mem_of_getElem? (i := 359) (by decide +kernel)) (by decide +kernel)
theorem w_363 : Cond.methodLink RX10 78 (xnm 53) ∈ xWds := xW1 (List.mem_of_getElem? (i := 363) (by decide +kernel)) (by decide +kernel)
theorem w_367 : Cond.classLink RX10 94 (xEx 2) ∈ xWds := xW1 (List.mem_of_getElem? (i := 367) (by decide +kernel)) (by decide +kernel)
theorem w_383 : Cond.methodLink RX10 161 (xnm 184) ∈ xWds := xW1 (List.mem_of_getElem? (i := 383) (by decide +kernel)) (by decide +kernel)
theorem w_387 : Cond.methodLink RJx4a65c 118 (xnm 153) ∈ xWds := xW1 (List.mem_of_getElem? (i := 387) (by decide +kernel)) (by decide +kernel)
theorem w_390 : Cond.methodLink RJ15 105 (xnm 156) ∈ xWds := xW1 (List.mem_of_getElem? (i := 390) (by decide +kernel)) (by decide +kernel)
theorem w_393 : Cond.methodLink RJx4a65c 123 (xnm 182) ∈ xWds := xW1 (List.mem_of_getElem? (i := 393) (by decide +kernel)) (by decide +kernel)
theorem w_401 : Cond.methodLink RL 26 (xnm 55) ∈ xWds := xW1 (List.mem_of_getElem? (i := 401) (by decide +kernel)) (by decide +kernel)
theorem w_405 : Cond.methodLink RX10 87 (xnm 42) ∈ xWds := xW1 (List.mem_of_getElem? (i := 405) (by decide +kernel)) (by decide +kernel)
theorem w_409 : Cond.methodLink RX9 25 (xnm 190) ∈ xWds := xW1 (List.mem_of_getElem? (i := 409) (by decide +kernel)) (by decide +kernel)
theorem w_410 : Cond.methodLink RX9 29 (xnm 184) ∈ xWds := xW1 (List.mem_of_getElem? (i := 410) (by decide +kernel)) (by decide +kernel)
theorem w_411 : Cond.methodLink RX10 91 (xnm 41) ∈ xWds := xW1 (List.mem_of_getElem? (i := 411) (by decide +kernel)) (by decide +kernel)
theorem w_419 : Cond.methodLink RL 30 (xnm 57) ∈ xWds := xW1 (List.mem_of_getElem? (i := 419) (by decide +kernel)) (by decide +kernel)
theorem w_423 : Cond.methodLink RX10 105 (xnm 56) ∈ xWds := xW1 (List.mem_of_getElem? (i := 423) (by decide +kernel)) (by decide +kernel)
theorem w_428 : Cond.fieldLink RX10 109 "Stuccohand" "PLASTERS" "[LStuccohand$Plaster;" ∈ xWds := xW1 (List.mem_of_getElem? (i := 428) (by decide +kernel)) (by decide +kernel)
theorem w_432 : Cond.methodLink RX10 117 (xnm 22) ∈ xWds := xW1 (List.mem_of_getElem? (i := 432) (by decide +kernel)) (by decide +kernel)
theorem w_436 : Cond.methodLink RX4 18 (xnm 190) ∈ xWds := xW1 (List.mem_of_getElem? (i := 436) (by decide +kernel)) (by decide +kernel)
theorem w_437 : Cond.methodLink RX10 121 (xnm 43) ∈ xWds := xW1 (List.mem_of_getElem? (i := 437) (by decide +kernel)) (by decide +kernel)
theorem w_441 : Cond.methodLink RX9 33 (xnm 42) ∈ xWds := xW1 (List.mem_of_getElem? (i := 441) (by decide +kernel)) (by decide +kernel)
theorem w_442 : Cond.methodLink RX9 37 (xnm 34) ∈ xWds := xW1 (List.mem_of_getElem? (i := 442) (by decide +kernel)) (by decide +kernel)
theorem w_446 : Cond.methodLink RX8 22 (xnm 190) ∈ xWds := xW1 (List.mem_of_getElem? (i := 446) (by decide +kernel)) (by decide +kernel)
theorem w_447 : Cond.methodLink RX8 36 (xnm 33) ∈ xWds := xW1 (List.mem_of_getElem? (i := 447) (by decide +kernel)) (by decide +kernel)
theorem w_451 : Cond.methodLink RX8 32 (xnm 32) ∈ xWds := xW1 (List.mem_of_getElem? (i := 451) (by decide +kernel)) (by decide +kernel)
theorem w_455 : Cond.methodLink RX8 26 (xnm 184) ∈ xWds := xW1 (List.mem_of_getElem? (i := 455) (by decide +kernel)) (by decide +kernel)
theorem w_456 : Cond.classLink RX8 30 "Stuccohand$Coat" ∈ xWds := xW1 (List.mem_of_getElem? (i := 456) (by decide +kernel)) (by decide +kernel)
theorem w_457 : Cond.methodLink RX8 53 (xnm 1) ∈ xWds := xW1 (List.mem_of_getElem? (i := 457) (by decide +kernel)) (by decide +kernel)
theorem w_462 : Cond.methodLink RX10 127 (xnm 23) ∈ xWds := xW1 (List.mem_of_getElem? (i := 462) (by decide +kernel)) (by decide +kernel)
theorem w_466 : Cond.classLink RX4 22 "Stuccohand$Entry" ∈ xWds := xW1 (List.mem_of_getElem? (i := 466) (by decide +kernel)) (by decide +kernel)
theorem w_467 : Cond.instantiable "Stuccohand$Entry" 4 ∈ xWds := xW1 (List.mem_of_getElem? (i := 467) (by decide +kernel)) (by decide +kernel)
theorem w_468 : Cond.methodLink RX4 24 (xnm 6) ∈ xWds := xW1 (List.mem_of_getElem? (i := 468) (by decide +kernel)) (by decide +kernel)
theorem w_471 : Cond.methodLink RX1 1 objectInit ∈ xWds := xW1 (List.mem_of_getElem? (i := 471) (by decide +kernel)) (by decide +kernel)
theorem w_472 : Cond.fieldLink RX1 7 "Stuccohand$Entry" (TX1 0).2.1 (TX1 0).2.2.1 ∈ xWds := xW1 (List.mem_of_getElem? (i := 472) (by decide +kernel)) (by decide +kernel)
theorem w_473 : Cond.fieldLink RX1 13 "Stuccohand$Entry" (TX1 1).2.1 (TX1 1).2.2.1 ∈ xWds := xW1 (List.mem_of_getElem? (i := 473) (by decide +kernel)) (by decide +kernel)
theorem w_474 : Cond.fieldLink RX1 16 "Stuccohand$Entry" (TX1 2).2.1 (TX1 2).2.2.1 ∈ xWds := xW1 (List.mem_of_getElem? (i := 474) (by decide +kernel)) (by decide +kernel)
theorem w_475 : Cond.fieldLink RX1 19 "Stuccohand$Entry" (TX1 3).2.1 (TX1 3).2.2.1 ∈ xWds := xW1 (List.mem_of_getElem? (i := 475) (by decide +kernel)) (by decide +kernel)
theorem w_476 : Cond.fieldLink RX4 39 "Stuccohand$Entry" (TX1 3).2.1 (TX1 3).2.2.1 ∈ xWds := xW1 (List.mem_of_getElem? (i := 476) (by decide +kernel)) (by decide +kernel)
theorem w_486 : Cond.methodLink RX4 27 (xnm 181) ∈ xWds := xW1 (List.mem_of_getElem? (i := 486) (by decide +kernel)) (by decide +kernel)
theorem w_487 : Cond.methodLink RX10 131 (xnm 45) ∈ xWds := xW1 (List.mem_of_getElem? (i := 487) (by decide +kernel)) (by decide +kernel)
theorem w_491 : Cond.methodLink RX9 41 (xnm 36) ∈ xWds := xW1 (List.mem_of_getElem? (i := 491) (by decide +kernel)) (by decide +kernel)
theorem w_495 : Cond.instantiable "Stuccohand$Coat" 6 ∈ xWds := xW1 (List.mem_of_getElem? (i := 495) (by decide +kernel)) (by decide +kernel)
theorem w_496 : Cond.methodLink RX8 57 (xnm 0) ∈ xWds := xW1 (List.mem_of_getElem? (i := 496) (by decide +kernel)) (by decide +kernel)
theorem w_499 : Cond.methodLink RX0 3 objectInit ∈ xWds := xW1 (List.mem_of_getElem? (i := 499) (by decide +kernel)) (by decide +kernel)
theorem w_500 : Cond.fieldLink RX0 9 "Stuccohand$Coat" (TX0 0).2.1 (TX0 0).2.2.1 ∈ xWds := xW1 (List.mem_of_getElem? (i := 500) (by decide +kernel)) (by decide +kernel)
theorem w_501 : Cond.fieldLink RX8 49 "Stuccohand$Coat" (TX0 0).2.1 (TX0 0).2.2.1 ∈ xWds := xW1 (List.mem_of_getElem? (i := 501) (by decide +kernel)) (by decide +kernel)
theorem w_502 : Cond.fieldLink RX10 173 "Stuccohand$Coat" (TX0 0).2.1 (TX0 0).2.2.1 ∈ xWds := xW1 (List.mem_of_getElem? (i := 502) (by decide +kernel)) (by decide +kernel)
theorem w_503 : Cond.fieldLink RX0 15 "Stuccohand$Coat" (TX0 1).2.1 (TX0 1).2.2.1 ∈ xWds := xW1 (List.mem_of_getElem? (i := 503) (by decide +kernel)) (by decide +kernel)
theorem w_504 : Cond.fieldLink RX10 184 "Stuccohand$Coat" (TX0 1).2.1 (TX0 1).2.2.1 ∈ xWds := xW1 (List.mem_of_getElem? (i := 504) (by decide +kernel)) (by decide +kernel)
theorem w_505 : Cond.fieldLink RX0 19 "Stuccohand$Coat" (TX0 2).2.1 (TX0 2).2.2.1 ∈ xWds := xW1 (List.mem_of_getElem? (i := 505) (by decide +kernel)) (by decide +kernel)
theorem w_506 : Cond.fieldLink RX9 66 "Stuccohand$Coat" (TX0 2).2.1 (TX0 2).2.2.1 ∈ xWds := xW1 (List.mem_of_getElem? (i := 506) (by decide +kernel)) (by decide +kernel)
theorem w_507 : Cond.fieldLink RX8 87 "Stuccohand$Coat" (TX0 2).2.1 (TX0 2).2.2.1 ∈ xWds := xW1 (List.mem_of_getElem? (i := 507) (by decide +kernel)) (by decide +kernel)
theorem w_508 : Cond.fieldLink RX10 187 "Stuccohand$Coat" (TX0 2).2.1 (TX0 2).2.2.1 ∈ xWds := xW1 (List.mem_of_getElem? (i := 508) (by decide +kernel)) (by decide +kernel)
theorem w_509 : Cond.fieldLink RX0 40 "Stuccohand$Coat" (TX0 3).2.1 (TX0 3).2.2.1 ∈ xWds := xW1 (List.mem_of_getElem? (i := 509) (by decide +kernel)) (by decide +kernel)
theorem w_510 : Cond.fieldLink RX9 49 "Stuccohand$Coat" (TX0 3).2.1 (TX0 3).2.2.1 ∈ xWds := xW1 (List.mem_of_getElem? (i := 510) (by decide +kernel)) (by decide +kernel)
theorem w_511 : Cond.fieldLink RX8 67 "Stuccohand$Coat" (TX0 3).2.1 (TX0 3).2.2.1 ∈ xWds := xW1 (List.mem_of_getElem? (i := 511) (by decide +kernel)) (by decide +kernel)
theorem w_512 : Cond.fieldLink RX10 193 "Stuccohand$Coat" (TX0 3).2.1 (TX0 3).2.2.1 ∈ xWds := xW1 (List.mem_of_getElem? (i := 512) (by decide +kernel)) (by decide +kernel)
theorem w_513 : Cond.fieldLink RX8 78 "Stuccohand$Coat" (TX0 4).2.1 (TX0 4).2.2.1 ∈ xWds := xW1 (List.mem_of_getElem? (i := 513) (by decide +kernel)) (by decide +kernel)
theorem w_514 : Cond.fieldLink RX9 70 "Stuccohand$Coat" (TX0 4).2.1 (TX0 4).2.2.1 ∈ xWds := xW1 (List.mem_of_getElem? (i := 514) (by decide +kernel)) (by decide +kernel)
theorem w_515 : Cond.fieldLink RX10 196 "Stuccohand$Coat" (TX0 4).2.1 (TX0 4).2.2.1 ∈ xWds := xW1 (List.mem_of_getElem? (i := 515) (by decide +kernel)) (by decide +kernel)
theorem w_516 : Cond.fieldLink RX0 22 "Stuccohand$Coat" (TX0 5).2.1 (TX0 5).2.2.1 ∈ xWds := xW1 (List.mem_of_getElem? (i := 516) (by decide +kernel)) (by decide +kernel)
theorem w_530 : Cond.methodLink RX8 60 (xnm 35) ∈ xWds := xW1 (List.mem_of_getElem? (i := 530) (by decide +kernel)) (by decide +kernel)
theorem w_534 : Cond.methodLink RX8 63 (xnm 2) ∈ xWds := xW1 (List.mem_of_getElem? (i := 534) (by decide +kernel)) (by decide +kernel)
theorem w_538 : Cond.methodLink RX8 71 (xnm 181) ∈ xWds := xW1 (List.mem_of_getElem? (i := 538) (by decide +kernel)) (by decide +kernel)
theorem w_539 : Cond.methodLink RX9 45 (xnm 33) ∈ xWds := xW1 (List.mem_of_getElem? (i := 539) (by decide +kernel)) (by decide +kernel)
theorem w_540 : Cond.methodLink RX9 55 (xnm 44) ∈ xWds := xW1 (List.mem_of_getElem? (i := 540) (by decide +kernel)) (by decide +kernel)
theorem w_544 : Cond.methodLink RX9 62 (xnm 38) ∈ xWds := xW1 (List.mem_of_getElem? (i := 544) (by decide +kernel)) (by decide +kernel)
theorem w_548 : Cond.methodLink RX8 84 (xnm 31) ∈ xWds := xW1 (List.mem_of_getElem? (i := 548) (by decide +kernel)) (by decide +kernel)
theorem w_555 : Cond.methodLink RL 34 (xnm 58) ∈ xWds := xW1 (List.mem_of_getElem? (i := 555) (by decide +kernel)) (by decide +kernel)
theorem w_559 : Cond.methodLink RX10 135 (xnm 46) ∈ xWds := xW1 (List.mem_of_getElem? (i := 559) (by decide +kernel)) (by decide +kernel)
theorem w_564 : Cond.methodLink RX10 141 (xnm 47) ∈ xWds := xW1 (List.mem_of_getElem? (i := 564) (by decide +kernel)) (by decide +kernel)
theorem w_571 : Cond.methodLink RL 38 (xnm 60) ∈ xWds := xW1 (List.mem_of_getElem? (i := 571) (by decide +kernel)) (by decide +kernel)
theorem w_575 : Cond.methodLink RX10 145 (xnm 59) ∈ xWds := xW1 (List.mem_of_getElem? (i := 575) (by decide +kernel)) (by decide +kernel)
theorem w_579 : Cond.methodLink RX10 149 (xnm 31) ∈ xWds := xW1 (List.mem_of_getElem? (i := 579) (by decide +kernel)) (by decide +kernel)
theorem w_581 : Cond.methodLink RX10 154 (xnm 37) ∈ xWds := xW1 (List.mem_of_getElem? (i := 581) (by decide +kernel)) (by decide +kernel)
theorem w_585 : Cond.methodLink RX8 81 (xnm 189) ∈ xWds := xW1 (List.mem_of_getElem? (i := 585) (by decide +kernel)) (by decide +kernel)
theorem w_589 : Cond.methodLink RJx4a65c 144 (xnm 183) ∈ xWds := xW1 (List.mem_of_getElem? (i := 589) (by decide +kernel)) (by decide +kernel)
theorem w_593 : Cond.methodLink RJx4a65c 112 arraycopyName ∈ xWds := xW1 (List.mem_of_getElem? (i := 593) (by decide +kernel)) (by decide +kernel)
theorem w_597 : Cond.methodLink RL 41 (xnm 61) ∈ xWds := xW1 (List.mem_of_getElem? (i := 597) (by decide +kernel)) (by decide +kernel)
theorem w_603 : Cond.methodLink RX10 165 (xnm 48) ∈ xWds := xW1 (List.mem_of_getElem? (i := 603) (by decide +kernel)) (by decide +kernel)
theorem w_607 : Cond.methodLink RX9 76 Lib.Math.max.name ∈ xWds := xW1 (List.mem_of_getElem? (i := 607) (by decide +kernel)) (by decide +kernel)
theorem w_608 : Cond.methodLink RX9 82 (xnm 3) ∈ xWds := xW1 (List.mem_of_getElem? (i := 608) (by decide +kernel)) (by decide +kernel)
theorem w_612 : Cond.methodLink RX0 33 (xnm 1) ∈ xWds := xW1 (List.mem_of_getElem? (i := 612) (by decide +kernel)) (by decide +kernel)
theorem w_613 : Cond.fieldLink RX0 37 "Stuccohand$Plaster" "CEMENT" "LStuccohand$Plaster;" ∈ xWds := xW1 (List.mem_of_getElem? (i := 613) (by decide +kernel)) (by decide +kernel)
theorem w_618 : Cond.methodLink RL 45 (xnm 63) ∈ xWds := xW1 (List.mem_of_getElem? (i := 618) (by decide +kernel)) (by decide +kernel)
theorem w_622 : Cond.methodLink RX10 169 (xnm 62) ∈ xWds := xW1 (List.mem_of_getElem? (i := 622) (by decide +kernel)) (by decide +kernel)
theorem w_626 : Cond.methodLink RX10 362 (xnm 32) ∈ xWds := xW1 (List.mem_of_getElem? (i := 626) (by decide +kernel)) (by decide +kernel)
theorem w_628 : Cond.methodLink RX10 190 (xnm 1) ∈ xWds := xW1 (List.mem_of_getElem? (i := 628) (by decide +kernel)) (by decide +kernel)
theorem w_633 : Cond.methodLink RL 49 (xnm 64) ∈ xWds := xW1 (List.mem_of_getElem? (i := 633) (by decide +kernel)) (by decide +kernel)
theorem w_637 : Cond.methodLink RX10 201 (xnm 24) ∈ xWds := xW1 (List.mem_of_getElem? (i := 637) (by decide +kernel)) (by decide +kernel)
theorem w_641 : Cond.methodLink RX4 31 (xnm 184) ∈ xWds := xW1 (List.mem_of_getElem? (i := 641) (by decide +kernel)) (by decide +kernel)
theorem w_642 : Cond.methodLink RX4 35 (xnm 7) ∈ xWds := xW1 (List.mem_of_getElem? (i := 642) (by decide +kernel)) (by decide +kernel)
theorem w_649 : Cond.methodLink RL 52 (xnm 65) ∈ xWds := xW1 (List.mem_of_getElem? (i := 649) (by decide +kernel)) (by decide +kernel)
theorem w_654 : Cond.methodLink RX10 205 (xnm 5) ∈ xWds := xW1 (List.mem_of_getElem? (i := 654) (by decide +kernel)) (by decide +kernel)
theorem w_658 : Cond.classLink RX0 50 "java/lang/StringBuilder" ∈ xWds := xW1 (List.mem_of_getElem? (i := 658) (by decide +kernel)) (by decide +kernel)
theorem w_659 : Cond.instantiable "java/lang/StringBuilder" 4 ∈ xWds := xW1 (List.mem_of_getElem? (i := 659) (by decide +kernel)) (by decide +kernel)
theorem w_660 : Cond.methodLink RX0 52 (xnm 161) ∈ xWds := xW1 (List.mem_of_getElem? (i := 660) (by decide +kernel)) (by decide +kernel)
theorem w_663 : Cond.methodLink RJ4 1 (xnm 168) ∈ xWds := xW1 (List.mem_of_getElem? (i := 663) (by decide +kernel)) (by decide +kernel)
theorem w_666 : Cond.methodLink RJ5 3 objectInit ∈ xWds := xW1 (List.mem_of_getElem? (i := 666) (by decide +kernel)) (by decide +kernel)
theorem w_667 : Cond.fieldLink RJ5 18 "java/lang/String" "COMPACT_STRINGS" "Z" ∈ xWds := xW1 (List.mem_of_getElem? (i := 667) (by decide +kernel)) (by decide +kernel)
theorem w_676 : Cond.fieldLink RJ5 15 "java/lang/AbstractStringBuilder" (TJ4 0).2.1 (TJ4 0).2.2.1 ∈ xWds := xW1 (List.mem_of_getElem? (i := 676) (by decide +kernel)) (by decide +kernel)
theorem w_677 : Cond.fieldLink RJ5 22 "java/lang/AbstractStringBuilder" (TJ4 1).2.1 (TJ4 1).2.2.1 ∈ xWds := xW1 (List.mem_of_getElem? (i := 677) (by decide +kernel)) (by decide +kernel)
theorem w_678 : Cond.fieldLink RJ5 79 "java/lang/AbstractStringBuilder" (TJ4 3).2.1 (TJ4 3).2.2.1 ∈ xWds := xW1 (List.mem_of_getElem? (i := 678) (by decide +kernel)) (by decide +kernel)
theorem w_687 : Cond.superclass RJ4 (xnm 165).cls ∈ xWds := xW1 (List.mem_of_getElem? (i := 687) (by decide +kernel)) (by decide +kernel)
theorem w_688 : Cond.methodLink RX0 57 (xnm 157) ∈ xWds := xW1 (List.mem_of_getElem? (i := 688) (by decide +kernel)) (by decide +kernel)
theorem w_692 : Cond.methodLink RJ4 29 (xnm 165) ∈ xWds := xW1 (List.mem_of_getElem? (i := 692) (by decide +kernel)) (by decide +kernel)
theorem w_699 : Cond.methodLink RJ5 100 (xnm 167) ∈ xWds := xW1 (List.mem_of_getElem? (i := 699) (by decide +kernel)) (by decide +kernel)
theorem w_703 : Cond.methodLink RJ5 104 (xnm 172) ∈ xWds := xW1 (List.mem_of_getElem? (i := 703) (by decide +kernel)) (by decide +kernel)
theorem w_707 : Cond.methodLink RJ5 114 (xnm 179) ∈ xWds := xW1 (List.mem_of_getElem? (i := 707) (by decide +kernel)) (by decide +kernel)
theorem w_708 : Cond.constant RJ5 39 (2147483647 : Int32) ∈ xWds := xW1 (List.mem_of_getElem? (i := 708) (by decide +kernel)) (by decide +kernel)
theorem w_709 : Cond.methodLink RJ5 108 (xnm 178) ∈ xWds := xW1 (List.mem_of_getElem? (i := 709) (by decide +kernel)) (by decide +kernel)
theorem w_718 : Cond.classLink RJ7 311 "[B" ∈ xWds := xW1 (List.mem_of_getElem? (i := 718) (by decide +kernel)) (by decide +kernel)
theorem w_719 : Cond.methodLink RJ5 83 (xnm 170) ∈ xWds := xW1 (List.mem_of_getElem? (i := 719) (by decide +kernel)) (by decide +kernel)
theorem w_721 : Cond.sameMethod (xnm 170).cls (xnm 170).cls (xnm 170).name (xnm 170).desc ∈ xWds := xW1 (List.mem_of_getElem? (i := 721) (by decide +kernel)) (by decide +kernel)
theorem w_722 : Cond.selects "java/lang/StringBuilder" (xnm 170) (xnm 170) ∈ xWds := xW1 (List.mem_of_getElem? (i := 722) (by decide +kernel)) (by decide +kernel)
theorem w_736 : Cond.fieldLink RJ0 1053 "jdk/internal/util/Preconditions" "SIOOBE_FORMATTER" "Ljava/util/function/BiFunction;" ∈ xWds := xW1 (List.mem_of_getElem? (i := 736) (by decide +kernel)) (by decide +kernel)
theorem w_750 : Cond.methodLink RJ5 32 (xnm 151) ∈ xWds := xW1 (List.mem_of_getElem? (i := 750) (by decide +kernel)) (by decide +kernel)
theorem w_754 : Cond.methodLink RJ0 335 (xnm 149) ∈ xWds := xW1 (List.mem_of_getElem? (i := 754) (by decide +kernel)) (by decide +kernel)
theorem w_758 : Cond.fieldLink RJ0 38 "java/lang/String" "COMPACT_STRINGS" "Z" ∈ xWds := xW1 (List.mem_of_getElem? (i := 758) (by decide +kernel)) (by decide +kernel)
theorem w_759 : Cond.methodLink RJ5 208 (xnm 173) ∈ xWds := xW1 (List.mem_of_getElem? (i := 759) (by decide +kernel)) (by decide +kernel)
theorem w_763 : Cond.methodLink RJ5 397 (xnm 169) ∈ xWds := xW1 (List.mem_of_getElem? (i := 763) (by decide +kernel)) (by decide +kernel)
theorem w_767 : Cond.methodLink RJ5 40 (xnm 149) ∈ xWds := xW1 (List.mem_of_getElem? (i := 767) (by decide +kernel)) (by decide +kernel)
theorem w_787 : Cond.methodLink RJ5 399 (xnm 150) ∈ xWds := xW1 (List.mem_of_getElem? (i := 787) (by decide +kernel)) (by decide +kernel)
theorem w_791 : Cond.methodLink RJ0 212 arraycopyName ∈ xWds := xW1 (List.mem_of_getElem? (i := 791) (by decide +kernel)) (by decide +kernel)
theorem w_793 : Cond.methodLink RX0 61 (xnm 159) ∈ xWds := xW1 (List.mem_of_getElem? (i := 793) (by decide +kernel)) (by decide +kernel)
theorem w_797 : Cond.methodLink RJ4 50 (xnm 163) ∈ xWds := xW1 (List.mem_of_getElem? (i := 797) (by decide +kernel)) (by decide +kernel)
theorem w_800 : Cond.methodLink RJ5 191 (xnm 154) ∈ xWds := xW1 (List.mem_of_getElem? (i := 800) (by decide +kernel)) (by decide +kernel)
theorem w_809 : Cond.methodLink RJ2 414 (xnm 148) ∈ xWds := xW1 (List.mem_of_getElem? (i := 809) (by decide +kernel)) (by decide +kernel)
theorem w_812 : Cond.methodLink RJ0 1059 (xnm 156) ∈ xWds := xW1 (List.mem_of_getElem? (i := 812) (by decide +kernel)) (by decide +kernel)
theorem w_813 : Cond.methodLink RX0 64 (xnm 158) ∈ xWds := xW1 (List.mem_of_getElem? (i := 813) (by decide +kernel)) (by decide +kernel)
theorem w_817 : Cond.methodLink RJ4 53 (xnm 164) ∈ xWds := xW1 (List.mem_of_getElem? (i := 817) (by decide +kernel)) (by decide +kernel)
theorem w_820 : Cond.methodLink RJ5 245 (xnm 175) ∈ xWds := xW1 (List.mem_of_getElem? (i := 820) (by decide +kernel)) (by decide +kernel)
theorem w_823 : Cond.methodLink RJ5 248 (xnm 174) ∈ xWds := xW1 (List.mem_of_getElem? (i := 823) (by decide +kernel)) (by decide +kernel)
theorem w_826 : Cond.fieldLink RJ6 83 "java/lang/Integer" "DigitOnes" "[B" ∈ xWds := xW1 (List.mem_of_getElem? (i := 826) (by decide +kernel)) (by decide +kernel)
theorem w_828 : Cond.fieldLink RJ6 87 "java/lang/Integer" "DigitTens" "[B" ∈ xWds := xW1 (List.mem_of_getElem? (i := 828) (by decide +kernel)) (by decide +kernel)
theorem w_841 : Cond.methodLink RX10 209 (xnm 162) ∈ xWds := xW1 (List.mem_of_getElem? (i := 841) (by decide +kernel)) (by decide +kernel)
theorem w_845 : Cond.methodLink RJ4 343 (xnm 171) ∈ xWds := xW1 (List.mem_of_getElem? (i := 845) (by decide +kernel)) (by decide +kernel)
theorem w_848 : Cond.methodLink RX10 214 (xnm 160) ∈ xWds := xW1 (List.mem_of_getElem? (i := 848) (by decide +kernel)) (by decide +kernel)
theorem w_852 : Cond.methodLink RJ4 329 (xnm 166) ∈ xWds := xW1 (List.mem_of_getElem? (i := 852) (by decide +kernel)) (by decide +kernel)
theorem w_855 : Cond.methodLink RJ5 138 Lib.Math.min.name ∈ xWds := xW1 (List.mem_of_getElem? (i := 855) (by decide +kernel)) (by decide +kernel)
theorem w_856 : Cond.methodLink RJ5 144 (xnm 148) ∈ xWds := xW1 (List.mem_of_getElem? (i := 856) (by decide +kernel)) (by decide +kernel)
theorem w_863 : Cond.methodLink RL 56 (xnm 67) ∈ xWds := xW1 (List.mem_of_getElem? (i := 863) (by decide +kernel)) (by decide +kernel)
theorem w_867 : Cond.methodLink RX10 218 (xnm 66) ∈ xWds := xW1 (List.mem_of_getElem? (i := 867) (by decide +kernel)) (by decide +kernel)
theorem w_872 : Cond.classLink RX10 224 "Stuccohand$Profile" ∈ xWds := xW1 (List.mem_of_getElem? (i := 872) (by decide +kernel)) (by decide +kernel)
theorem w_873 : Cond.instantiable "Stuccohand$Profile" 2 ∈ xWds := xW1 (List.mem_of_getElem? (i := 873) (by decide +kernel)) (by decide +kernel)
theorem w_874 : Cond.methodLink RX10 226 (xnm 25) ∈ xWds := xW1 (List.mem_of_getElem? (i := 874) (by decide +kernel)) (by decide +kernel)
theorem w_877 : Cond.methodLink RX7 3 objectInit ∈ xWds := xW1 (List.mem_of_getElem? (i := 877) (by decide +kernel)) (by decide +kernel)
theorem w_878 : Cond.fieldLink RX7 9 "Stuccohand$Profile" (TX7 0).2.1 (TX7 0).2.2.1 ∈ xWds := xW1 (List.mem_of_getElem? (i := 878) (by decide +kernel)) (by decide +kernel)
theorem w_879 : Cond.fieldLink RX7 15 "Stuccohand$Profile" (TX7 1).2.1 (TX7 1).2.2.1 ∈ xWds := xW1 (List.mem_of_getElem? (i := 879) (by decide +kernel)) (by decide +kernel)
theorem w_888 : Cond.methodLink RL 59 (xnm 69) ∈ xWds := xW1 (List.mem_of_getElem? (i := 888) (by decide +kernel)) (by decide +kernel)
theorem w_892 : Cond.methodLink RX10 228 (xnm 68) ∈ xWds := xW1 (List.mem_of_getElem? (i := 892) (by decide +kernel)) (by decide +kernel)
theorem w_897 : Cond.methodLink RX10 232 (xnm 27) ∈ xWds := xW1 (List.mem_of_getElem? (i := 897) (by decide +kernel)) (by decide +kernel)
theorem w_902 : Cond.methodLink RX10 235 (xnm 28) ∈ xWds := xW1 (List.mem_of_getElem? (i := 902) (by decide +kernel)) (by decide +kernel)
theorem w_906 : Cond.methodLink RX10 238 (xnm 26) ∈ xWds := xW1 (List.mem_of_getElem? (i := 906) (by decide +kernel)) (by decide +kernel)
theorem w_913 : Cond.methodLink RL 62 (xnm 71) ∈ xWds := xW1 (List.mem_of_getElem? (i := 913) (by decide +kernel)) (by decide +kernel)
theorem w_917 : Cond.methodLink RX10 241 Lib.Math.max.name ∈ xWds := xW1 (List.mem_of_getElem? (i := 917) (by decide +kernel)) (by decide +kernel)
theorem w_918 : Cond.constantFloat RX10 246 (1056964608 : UInt32) ∈ xWds := xW1 (List.mem_of_getElem? (i := 918) (by decide +kernel)) (by decide +kernel)
theorem w_919 : Cond.constantFloat RX10 247 (3212836864 : UInt32) ∈ xWds := xW1 (List.mem_of_getElem? (i := 919) (by decide +kernel)) (by decide +kernel)
theorem w_920 : Cond.methodLink RX10 248 (xnm 29) ∈ xWds := xW1 (List.mem_of_getElem? (i := 920) (by decide +kernel)) (by decide +kernel)
theorem w_924 : Cond.methodLink RX7 19 Lib.Math.min.name ∈ xWds := xW1 (List.mem_of_getElem? (i := 924) (by decide +kernel)) (by decide +kernel)
theorem w_925 : Cond.methodLink RX10 252 (xnm 70) ∈ xWds := xW1 (List.mem_of_getElem? (i := 925) (by decide +kernel)) (by decide +kernel)
theorem w_931 : Cond.methodLink RL 66 (xnm 74) ∈ xWds := xW1 (List.mem_of_getElem? (i := 931) (by decide +kernel)) (by decide +kernel)
theorem w_935 : Cond.methodLink RX10 256 (xnm 72) ∈ xWds := xW1 (List.mem_of_getElem? (i := 935) (by decide +kernel)) (by decide +kernel)
theorem w_938 : Cond.constant RX10 263 (100000 : Int32) ∈ xWds := xW1 (List.mem_of_getElem? (i := 938) (by decide +kernel)) (by decide +kernel)
theorem w_941 : Cond.methodLink RX10 260 (xnm 73) ∈ xWds := xW1 (List.mem_of_getElem? (i := 941) (by decide +kernel)) (by decide +kernel)
theorem w_947 : Cond.methodLink RL 69 (xnm 75) ∈ xWds := xW1 (List.mem_of_getElem? (i := 947) (by decide +kernel)) (by decide +kernel)
theorem w_954 : Cond.methodLink RL 72 (xnm 77) ∈ xWds := xW1 (List.mem_of_getElem? (i := 954) (by decide +kernel)) (by decide +kernel)
theorem w_960 : Cond.methodLink RX10 270 (xnm 76) ∈ xWds := xW1 (List.mem_of_getElem? (i := 960) (by decide +kernel)) (by decide +kernel)
theorem w_966 : Cond.methodLink RL 75 (xnm 79) ∈ xWds := xW1 (List.mem_of_getElem? (i := 966) (by decide +kernel)) (by decide +kernel)
theorem w_970 : Cond.methodLink RX10 273 (xnm 78) ∈ xWds := xW1 (List.mem_of_getElem? (i := 970) (by decide +kernel)) (by decide +kernel)
theorem w_974 : Cond.methodLink RX10 276 (xnm 9) ∈ xWds := xW1 (List.mem_of_getElem? (i := 974) (by decide +kernel)) (by decide +kernel)
theorem w_978 : Cond.methodLink RX10 279 (xnm 10) ∈ xWds := xW1 (List.mem_of_getElem? (i := 978) (by decide +kernel)) (by decide +kernel)
theorem w_985 : Cond.methodLink RL 78 (xnm 80) ∈ xWds := xW1 (List.mem_of_getElem? (i := 985) (by decide +kernel)) (by decide +kernel)
theorem w_990 : Cond.methodLink RX10 286 (xnm 11) ∈ xWds := xW1 (List.mem_of_getElem? (i := 990) (by decide +kernel)) (by decide +kernel)
theorem w_994 : Cond.methodLink RX2 25 (xnm 190) ∈ xWds := xW1 (List.mem_of_getElem? (i := 994) (by decide +kernel)) (by decide +kernel)
theorem w_996 : Cond.methodLink RX10 291 (xnm 16) ∈ xWds := xW1 (List.mem_of_getElem? (i := 996) (by decide +kernel)) (by decide +kernel)
theorem w_1000 : Cond.methodLink RX2 29 (xnm 184) ∈ xWds := xW1 (List.mem_of_getElem? (i := 1000) (by decide +kernel)) (by decide +kernel)
theorem w_1001 : Cond.classLink RX2 33 "Stuccohand$Patch" ∈ xWds := xW1 (List.mem_of_getElem? (i := 1001) (by decide +kernel)) (by decide +kernel)
theorem w_1002 : Cond.constantLong RX2 39 (-1 : Int64) ∈ xWds := xW1 (List.mem_of_getElem? (i := 1002) (by decide +kernel)) (by decide +kernel)
theorem w_1003 : Cond.methodLink RX2 41 (xnm 14) ∈ xWds := xW1 (List.mem_of_getElem? (i := 1003) (by decide +kernel)) (by decide +kernel)
theorem w_1010 : Cond.instantiable "Stuccohand$Patch" 2 ∈ xWds := xW1 (List.mem_of_getElem? (i := 1010) (by decide +kernel)) (by decide +kernel)
theorem w_1011 : Cond.methodLink RX2 45 (xnm 15) ∈ xWds := xW1 (List.mem_of_getElem? (i := 1011) (by decide +kernel)) (by decide +kernel)
theorem w_1014 : Cond.methodLink RX5 1 objectInit ∈ xWds := xW1 (List.mem_of_getElem? (i := 1014) (by decide +kernel)) (by decide +kernel)
theorem w_1015 : Cond.fieldLink RX5 7 "Stuccohand$Patch" (TX5 0).2.1 (TX5 0).2.2.1 ∈ xWds := xW1 (List.mem_of_getElem? (i := 1015) (by decide +kernel)) (by decide +kernel)
theorem w_1016 : Cond.fieldLink RX10 299 "Stuccohand$Patch" (TX5 0).2.1 (TX5 0).2.2.1 ∈ xWds := xW1 (List.mem_of_getElem? (i := 1016) (by decide +kernel)) (by decide +kernel)
theorem w_1017 : Cond.fieldLink RX5 13 "Stuccohand$Patch" (TX5 1).2.1 (TX5 1).2.2.1 ∈ xWds := xW1 (List.mem_of_getElem? (i := 1017) (by decide +kernel)) (by decide +kernel)
theorem w_1018 : Cond.fieldLink RX2 35 "Stuccohand$Patch" (TX5 1).2.1 (TX5 1).2.2.1 ∈ xWds := xW1 (List.mem_of_getElem? (i := 1018) (by decide +kernel)) (by decide +kernel)
theorem w_1019 : Cond.fieldLink RX10 304 "Stuccohand$Patch" (TX5 1).2.1 (TX5 1).2.2.1 ∈ xWds := xW1 (List.mem_of_getElem? (i := 1019) (by decide +kernel)) (by decide +kernel)
theorem w_1025 : Cond.methodLink RX2 48 (xnm 181) ∈ xWds := xW1 (List.mem_of_getElem? (i := 1025) (by decide +kernel)) (by decide +kernel)
theorem w_1029 : Cond.methodLink RL 82 (xnm 82) ∈ xWds := xW1 (List.mem_of_getElem? (i := 1029) (by decide +kernel)) (by decide +kernel)
theorem w_1033 : Cond.methodLink RX10 295 (xnm 81) ∈ xWds := xW1 (List.mem_of_getElem? (i := 1033) (by decide +kernel)) (by decide +kernel)
theorem w_1037 : Cond.methodLink RX10 378 (xnm 12) ∈ xWds := xW1 (List.mem_of_getElem? (i := 1037) (by decide +kernel)) (by decide +kernel)
theorem w_1043 : Cond.methodLink RX10 308 (xnm 14) ∈ xWds := xW1 (List.mem_of_getElem? (i := 1043) (by decide +kernel)) (by decide +kernel)
theorem w_1047 : Cond.methodLink RL 86 (xnm 83) ∈ xWds := xW1 (List.mem_of_getElem? (i := 1047) (by decide +kernel)) (by decide +kernel)
theorem w_1052 : Cond.methodLink RX10 320 (xnm 17) ∈ xWds := xW1 (List.mem_of_getElem? (i := 1052) (by decide +kernel)) (by decide +kernel)
theorem w_1056 : Cond.methodLink RX10 323 (xnm 18) ∈ xWds := xW1 (List.mem_of_getElem? (i := 1056) (by decide +kernel)) (by decide +kernel)
theorem w_1060 : Cond.methodLink RX10 326 (xnm 19) ∈ xWds := xW1 (List.mem_of_getElem? (i := 1060) (by decide +kernel)) (by decide +kernel)
theorem w_1067 : Cond.methodLink RL 89 (xnm 85) ∈ xWds := xW1 (List.mem_of_getElem? (i := 1067) (by decide +kernel)) (by decide +kernel)
theorem w_1071 : Cond.methodLink RX10 334 (xnm 20) ∈ xWds := xW1 (List.mem_of_getElem? (i := 1071) (by decide +kernel)) (by decide +kernel)
theorem w_1078 : Cond.methodLink RL 92 (xnm 87) ∈ xWds := xW1 (List.mem_of_getElem? (i := 1078) (by decide +kernel)) (by decide +kernel)
theorem w_1082 : Cond.methodLink RX10 338 (xnm 86) ∈ xWds := xW1 (List.mem_of_getElem? (i := 1082) (by decide +kernel)) (by decide +kernel)
theorem w_1090 : Cond.methodLink RL 96 (xnm 90) ∈ xWds := xW1 (List.mem_of_getElem? (i := 1090) (by decide +kernel)) (by decide +kernel)
theorem w_1096 : Cond.methodLink RX10 355 (xnm 49) ∈ xWds := xW1 (List.mem_of_getElem? (i := 1096) (by decide +kernel)) (by decide +kernel)
theorem w_1100 : Cond.methodLink RX9 86 (xnm 39) ∈ xWds := xW1 (List.mem_of_getElem? (i := 1100) (by decide +kernel)) (by decide +kernel)
theorem w_1104 : Cond.methodLink RX8 90 (xnm 188) ∈ xWds := xW1 (List.mem_of_getElem? (i := 1104) (by decide +kernel)) (by decide +kernel)
theorem w_1108 : Cond.methodLink RX8 93 (xnm 4) ∈ xWds := xW1 (List.mem_of_getElem? (i := 1108) (by decide +kernel)) (by decide +kernel)
theorem w_1112 : Cond.methodLink RX0 44 Lib.Math.max.name ∈ xWds := xW1 (List.mem_of_getElem? (i := 1112) (by decide +kernel)) (by decide +kernel)
theorem w_1118 : Cond.methodLink RX11 1 objectInit ∈ xWds := xW1 (List.mem_of_getElem? (i := 1118) (by decide +kernel)) (by decide +kernel)
theorem w_1119 : Cond.fieldLink RX11 112 "StuccohandModel" (TX11 0).2.1 (TX11 0).2.2.1 ∈ xWds := xW1 (List.mem_of_getElem? (i := 1119) (by decide +kernel)) (by decide +kernel)
theorem w_1120 : Cond.fieldLink RX11 7 "StuccohandModel" (TX11 1).2.1 (TX11 1).2.2.1 ∈ xWds := xW1 (List.mem_of_getElem? (i := 1120) (by decide +kernel)) (by decide +kernel)
theorem w_1121 : Cond.fieldLink RX11 96 "StuccohandModel" (TX11 2).2.1 (TX11 2).2.2.1 ∈ xWds := xW1 (List.mem_of_getElem? (i := 1121) (by decide +kernel)) (by decide +kernel)
theorem w_1122 : Cond.fieldLink RX11 78 "StuccohandModel" (TX11 3).2.1 (TX11 3).2.2.1 ∈ xWds := xW1 (List.mem_of_getElem? (i := 1122) (by decide +kernel)) (by decide +kernel)
theorem w_1123 : Cond.fieldLink RX11 13 "StuccohandModel" (TX11 4).2.1 (TX11 4).2.2.1 ∈ xWds := xW1 (List.mem_of_getElem? (i := 1123) (by decide +kernel)) (by decide +kernel)
theorem w_1124 : Cond.fieldLink RX11 17 "StuccohandModel" (TX11 5).2.1 (TX11 5).2.2.1 ∈ xWds := xW1 (List.mem_of_getElem? (i := 1124) (by decide +kernel)) (by decide +kernel)
theorem w_1125 : Cond.fieldLink RX11 20 "StuccohandModel" (TX11 6).2.1 (TX11 6).2.2.1 ∈ xWds := xW1 (List.mem_of_getElem? (i := 1125) (by decide +kernel)) (by decide +kernel)
theorem w_1126 : Cond.fieldLink RX11 23 "StuccohandModel" (TX11 7).2.1 (TX11 7).2.2.1 ∈ xWds := xW1 (List.mem_of_getElem? (i := 1126) (by decide +kernel)) (by decide +kernel)
theorem w_1127 : Cond.fieldLink RX11 27 "StuccohandModel" (TX11 8).2.1 (TX11 8).2.2.1 ∈ xWds := xW1 (List.mem_of_getElem? (i := 1127) (by decide +kernel)) (by decide +kernel)
theorem w_1128 : Cond.fieldLink RX11 30 "StuccohandModel" (TX11 9).2.1 (TX11 9).2.2.1 ∈ xWds := xW1 (List.mem_of_getElem? (i := 1128) (by decide +kernel)) (by decide +kernel)
theorem w_1129 : Cond.fieldLink RX11 33 "StuccohandModel" (TX11 10).2.1 (TX11 10).2.2.1 ∈ xWds := xW1 (List.mem_of_getElem? (i := 1129) (by decide +kernel)) (by decide +kernel)
theorem w_1130 : Cond.fieldLink RX11 36 "StuccohandModel" (TX11 11).2.1 (TX11 11).2.2.1 ∈ xWds := xW1 (List.mem_of_getElem? (i := 1130) (by decide +kernel)) (by decide +kernel)
theorem w_1131 : Cond.fieldLink RX11 39 "StuccohandModel" (TX11 12).2.1 (TX11 12).2.2.1 ∈ xWds := xW1 (List.mem_of_getElem? (i := 1131) (by decide +kernel)) (by decide +kernel)
theorem w_1132 : Cond.fieldLink RX11 42 "StuccohandModel" (TX11 13).2.1 (TX11 13).2.2.1 ∈ xWds := xW1 (List.mem_of_getElem? (i := 1132) (by decide +kernel)) (by decide +kernel)
theorem w_1133 : Cond.fieldLink RX11 45 "StuccohandModel" (TX11 14).2.1 (TX11 14).2.2.1 ∈ xWds := xW1 (List.mem_of_getElem? (i := 1133) (by decide +kernel)) (by decide +kernel)
theorem w_1134 : Cond.fieldLink RX11 48 "StuccohandModel" (TX11 15).2.1 (TX11 15).2.2.1 ∈ xWds := xW1 (List.mem_of_getElem? (i := 1134) (by decide +kernel)) (by decide +kernel)
theorem w_1135 : Cond.fieldLink RX11 164 "StuccohandModel" (TX11 16).2.1 (TX11 16).2.2.1 ∈ xWds := xW1 (List.mem_of_getElem? (i := 1135) (by decide +kernel)) (by decide +kernel)
theorem w_1136 : Cond.fieldLink RX11 51 "StuccohandModel" (TX11 17).2.1 (TX11 17).2.2.1 ∈ xWds := xW1 (List.mem_of_getElem? (i := 1136) (by decide +kernel)) (by decide +kernel)
theorem w_1137 : Cond.fieldLink RX11 54 "StuccohandModel" (TX11 18).2.1 (TX11 18).2.2.1 ∈ xWds := xW1 (List.mem_of_getElem? (i := 1137) (by decide +kernel)) (by decide +kernel)
theorem w_1138 : Cond.fieldLink RX11 57 "StuccohandModel" (TX11 19).2.1 (TX11 19).2.2.1 ∈ xWds := xW1 (List.mem_of_getElem? (i := 1138) (by decide +kernel)) (by decide +kernel)
theorem w_1139 : Cond.fieldLink RX11 187 "StuccohandModel" (TX11 20).2.1 (TX11 20).2.2.1 ∈ xWds := xW1 (List.mem_of_getElem? (i := 1139) (by decide +kernel)) (by decide +kernel)
theorem w_1140 : Cond.fieldLink RX11 60 "StuccohandModel" (TX11 21).2.1 (TX11 21).2.2.1 ∈ xWds := xW1 (List.mem_of_getElem? (i := 1140) (by decide +kernel)) (by decide +kernel)
theorem w_1141 : Cond.fieldLink RX11 63 "StuccohandModel" (TX11 22).2.1 (TX11 22).2.2.1 ∈ xWds := xW1 (List.mem_of_getElem? (i := 1141) (by decide +kernel)) (by decide +kernel)
theorem w_1142 : Cond.fieldLink RX11 66 "StuccohandModel" (TX11 23).2.1 (TX11 23).2.2.1 ∈ xWds := xW1 (List.mem_of_getElem? (i := 1142) (by decide +kernel)) (by decide +kernel)
theorem w_1143 : Cond.fieldLink RX11 69 "StuccohandModel" (TX11 24).2.1 (TX11 24).2.2.1 ∈ xWds := xW1 (List.mem_of_getElem? (i := 1143) (by decide +kernel)) (by decide +kernel)
theorem w_1144 : Cond.fieldLink RX11 72 "StuccohandModel" (TX11 25).2.1 (TX11 25).2.2.1 ∈ xWds := xW1 (List.mem_of_getElem? (i := 1144) (by decide +kernel)) (by decide +kernel)
theorem w_1145 : Cond.fieldLink RX11 75 "StuccohandModel" (TX11 26).2.1 (TX11 26).2.2.1 ∈ xWds := xW1 (List.mem_of_getElem? (i := 1145) (by decide +kernel)) (by decide +kernel)
theorem w_1201 : Cond.arrayClass .boolean ∈ xWds := xW1 (List.mem_of_getElem? (i := 1201) (by decide +kernel)) (by decide +kernel)
theorem w_1210 : Cond.methodLink RX11 81 (xnm 94) ∈ xWds := xW1 (List.mem_of_getElem? (i := 1210) (by decide +kernel)) (by decide +kernel)
theorem w_1213 : Cond.methodLink RX11 93 (xnm 93) ∈ xWds := xW1 (List.mem_of_getElem? (i := 1213) (by decide +kernel)) (by decide +kernel)
theorem w_1225 : Cond.methodLink RX11 85 (xnm 95) ∈ xWds := xW1 (List.mem_of_getElem? (i := 1225) (by decide +kernel)) (by decide +kernel)
theorem w_1233 : Cond.methodLink RX11 89 (xnm 96) ∈ xWds := xW1 (List.mem_of_getElem? (i := 1233) (by decide +kernel)) (by decide +kernel)
theorem w_1241 : Cond.methodLink RX11 122 (xnm 108) ∈ xWds := xW1 (List.mem_of_getElem? (i := 1241) (by decide +kernel)) (by decide +kernel)
theorem w_1245 : Cond.methodLink RX11 99 (xnm 107) ∈ xWds := xW1 (List.mem_of_getElem? (i := 1245) (by decide +kernel)) (by decide +kernel)
theorem w_1249 : Cond.methodLink RX11 103 (xnm 101) ∈ xWds := xW1 (List.mem_of_getElem? (i := 1249) (by decide +kernel)) (by decide +kernel)
theorem w_1252 : Cond.methodLink RX11 106 (xnm 98) ∈ xWds := xW1 (List.mem_of_getElem? (i := 1252) (by decide +kernel)) (by decide +kernel)
theorem w_1255 : Cond.methodLink RX11 125 (xnm 111) ∈ xWds := xW1 (List.mem_of_getElem? (i := 1255) (by decide +kernel)) (by decide +kernel)
theorem w_1259 : Cond.methodLink RX11 115 (xnm 109) ∈ xWds := xW1 (List.mem_of_getElem? (i := 1259) (by decide +kernel)) (by decide +kernel)
theorem w_1263 : Cond.methodLink RX11 109 (xnm 102) ∈ xWds := xW1 (List.mem_of_getElem? (i := 1263) (by decide +kernel)) (by decide +kernel)
theorem w_1266 : Cond.methodLink RX11 119 (xnm 100) ∈ xWds := xW1 (List.mem_of_getElem? (i := 1266) (by decide +kernel)) (by decide +kernel)
theorem w_1269 : Cond.methodLink RX11 129 (xnm 110) ∈ xWds := xW1 (List.mem_of_getElem? (i := 1269) (by decide +kernel)) (by decide +kernel)
theorem w_1285 : Cond.methodLink RX11 136 (xnm 115) ∈ xWds := xW1 (List.mem_of_getElem? (i := 1285) (by decide +kernel)) (by decide +kernel)
theorem w_1289 : Cond.methodLink RX11 133 (xnm 99) ∈ xWds := xW1 (List.mem_of_getElem? (i := 1289) (by decide +kernel)) (by decide +kernel)
theorem w_1296 : Cond.methodLink RX11 139 (xnm 97) ∈ xWds := xW1 (List.mem_of_getElem? (i := 1296) (by decide +kernel)) (by decide +kernel)
theorem w_1308 : Cond.methodLink RX11 160 (xnm 120) ∈ xWds := xW1 (List.mem_of_getElem? (i := 1308) (by decide +kernel)) (by decide +kernel)
theorem w_1312 : Cond.constantLong RX11 144 (1818848613 : Int64) ∈ xWds := xW1 (List.mem_of_getElem? (i := 1312) (by decide +kernel)) (by decide +kernel)
theorem w_1313 : Cond.constantLong RX11 146 (113668279199076 : Int64) ∈ xWds := xW1 (List.mem_of_getElem? (i := 1313) (by decide +kernel)) (by decide +kernel)
theorem w_1314 : Cond.constantLong RX11 148 (113771275318637 : Int64) ∈ xWds := xW1 (List.mem_of_getElem? (i := 1314) (by decide +kernel)) (by decide +kernel)
theorem w_1315 : Cond.constantLong RX11 150 (109287278210676 : Int64) ∈ xWds := xW1 (List.mem_of_getElem? (i := 1315) (by decide +kernel)) (by decide +kernel)
theorem w_1316 : Cond.methodLink RX11 152 (xnm 119) ∈ xWds := xW1 (List.mem_of_getElem? (i := 1316) (by decide +kernel)) (by decide +kernel)
theorem w_1319 : Cond.constantLong RX11 142 (255 : Int64) ∈ xWds := xW1 (List.mem_of_getElem? (i := 1319) (by decide +kernel)) (by decide +kernel)
theorem w_1320 : Cond.constantLong RX11 156 (543453817 : Int64) ∈ xWds := xW1 (List.mem_of_getElem? (i := 1320) (by decide +kernel)) (by decide +kernel)
theorem w_1321 : Cond.constantLong RX11 158 (2333834794513425764 : Int64) ∈ xWds := xW1 (List.mem_of_getElem? (i := 1321) (by decide +kernel)) (by decide +kernel)
theorem w_1330 : Cond.methodLink RX11 167 (xnm 122) ∈ xWds := xW1 (List.mem_of_getElem? (i := 1330) (by decide +kernel)) (by decide +kernel)
theorem w_1338 : Cond.constantFloat RX11 170 (1056964608 : UInt32) ∈ xWds := xW1 (List.mem_of_getElem? (i := 1338) (by decide +kernel)) (by decide +kernel)
theorem w_1339 : Cond.constantFloat RX11 171 (3212836864 : UInt32) ∈ xWds := xW1 (List.mem_of_getElem? (i := 1339) (by decide +kernel)) (by decide +kernel)
theorem w_1340 : Cond.methodLink RX11 172 (xnm 125) ∈ xWds := xW1 (List.mem_of_getElem? (i := 1340) (by decide +kernel)) (by decide +kernel)
theorem w_1348 : Cond.methodLink RX11 176 (xnm 127) ∈ xWds := xW1 (List.mem_of_getElem? (i := 1348) (by decide +kernel)) (by decide +kernel)
theorem w_1351 : Cond.constant RX11 175 (100000 : Int32) ∈ xWds := xW1 (List.mem_of_getElem? (i := 1351) (by decide +kernel)) (by decide +kernel)
theorem w_1352 : Cond.methodLink RX11 179 (xnm 128) ∈ xWds := xW1 (List.mem_of_getElem? (i := 1352) (by decide +kernel)) (by decide +kernel)
theorem w_1367 : Cond.methodLink RX11 182 (xnm 132) ∈ xWds := xW1 (List.mem_of_getElem? (i := 1367) (by decide +kernel)) (by decide +kernel)
theorem w_1374 : Cond.constantLong RX11 185 (281474976710655 : Int64) ∈ xWds := xW1 (List.mem_of_getElem? (i := 1374) (by decide +kernel)) (by decide +kernel)
theorem w_1375 : Cond.methodLink RX11 190 (xnm 133) ∈ xWds := xW1 (List.mem_of_getElem? (i := 1375) (by decide +kernel)) (by decide +kernel)
theorem w_1382 : Cond.methodLink RX11 194 (xnm 136) ∈ xWds := xW1 (List.mem_of_getElem? (i := 1382) (by decide +kernel)) (by decide +kernel)
theorem w_1394 : Cond.methodLink RX11 200 (xnm 140) ∈ xWds := xW1 (List.mem_of_getElem? (i := 1394) (by decide +kernel)) (by decide +kernel)
theorem w_1398 : Cond.methodLink RX11 197 (xnm 139) ∈ xWds := xW1 (List.mem_of_getElem? (i := 1398) (by decide +kernel)) (by decide +kernel)
theorem w_1405 : Cond.methodLink RX11 203 (xnm 142) ∈ xWds := xW1 (List.mem_of_getElem? (i := 1405) (by decide +kernel)) (by decide +kernel)
theorem w_1412 : Cond.methodLink RX11 206 (xnm 144) ∈ xWds := xW1 (List.mem_of_getElem? (i := 1412) (by decide +kernel)) (by decide +kernel)
theorem w_1420 : Cond.methodLink RX11 209 (xnm 146) ∈ xWds := xW1 (List.mem_of_getElem? (i := 1420) (by decide +kernel)) (by decide +kernel)
theorem w_1428 : Cond.sameMethod (xnm 165).cls (xnm 165).cls (xnm 165).name (xnm 165).desc ∈ xWds := xW1 (List.mem_of_getElem? (i := 1428) (by decide +kernel)) (by decide +kernel)
theorem w_1430 : Cond.sameMethod (xnm 167).cls (xnm 167).cls (xnm 167).name (xnm 167).desc ∈ xWds := xW1 (List.mem_of_getElem? (i := 1430) (by decide +kernel)) (by decide +kernel)
theorem w_1431 : Cond.sameMethod (xnm 172).cls (xnm 172).cls (xnm 172).name (xnm 172).desc ∈ xWds := xW1 (List.mem_of_getElem? (i := 1431) (by decide +kernel)) (by decide +kernel)
theorem w_1432 : Cond.sameMethod (xnm 173).cls (xnm 173).cls (xnm 173).name (xnm 173).desc ∈ xWds := xW1 (List.mem_of_getElem? (i := 1432) (by decide +kernel)) (by decide +kernel)
theorem w_1433 : Cond.sameMethod (xnm 169).cls (xnm 169).cls (xnm 169).name (xnm 169).desc ∈ xWds := xW1 (List.mem_of_getElem? (i := 1433) (by decide +kernel)) (by decide +kernel)
theorem w_1435 : Cond.sameMethod (xnm 163).cls (xnm 163).cls (xnm 163).name (xnm 163).desc ∈ xWds := xW1 (List.mem_of_getElem? (i := 1435) (by decide +kernel)) (by decide +kernel)
theorem w_1436 : Cond.sameMethod (xnm 164).cls (xnm 164).cls (xnm 164).name (xnm 164).desc ∈ xWds := xW1 (List.mem_of_getElem? (i := 1436) (by decide +kernel)) (by decide +kernel)
theorem w_1437 : Cond.sameMethod (xnm 171).cls (xnm 171).cls (xnm 171).name (xnm 171).desc ∈ xWds := xW1 (List.mem_of_getElem? (i := 1437) (by decide +kernel)) (by decide +kernel)
theorem w_1438 : Cond.sameMethod (xnm 166).cls (xnm 166).cls (xnm 166).name (xnm 166).desc ∈ xWds := xW1 (List.mem_of_getElem? (i := 1438) (by decide +kernel)) (by decide +kernel)
theorem w_1469 : Cond.fieldLink RX8 40 "Stuccohand$Ground" "hardness" "I" ∈ xWds := xW1 (List.mem_of_getElem? (i := 1469) (by decide +kernel)) (by decide +kernel)
theorem w_1470 : Cond.fieldLink RX8 46 "Stuccohand$Plaster" "hardness" "I" ∈ xWds := xW1 (List.mem_of_getElem? (i := 1470) (by decide +kernel)) (by decide +kernel)
theorem w_1471 : Cond.fieldLink RX0 25 "Stuccohand$Plaster" "needOfMillimetre" "I" ∈ xWds := xW1 (List.mem_of_getElem? (i := 1471) (by decide +kernel)) (by decide +kernel)
theorem w_1472 : Cond.fieldLink RX8 75 "Stuccohand$Ground" "keys" "I" ∈ xWds := xW1 (List.mem_of_getElem? (i := 1472) (by decide +kernel)) (by decide +kernel)
theorem w_1473 : Cond.fieldLink RX0 30 "Stuccohand$Plaster" "shrinkOfMillimetre" "I" ∈ xWds := xW1 (List.mem_of_getElem? (i := 1473) (by decide +kernel)) (by decide +kernel)
theorem w_1474 : Cond.fieldLink RX10 179 "Stuccohand$Plaster" "number" "I" ∈ xWds := xW1 (List.mem_of_getElem? (i := 1474) (by decide +kernel)) (by decide +kernel)
theorem w_1475 : Cond.fieldLink RX0 53 "Stuccohand$Plaster" "word" "Ljava/lang/String;" ∈ xWds := xW1 (List.mem_of_getElem? (i := 1475) (by decide +kernel)) (by decide +kernel)
theorem w_1476 : Cond.fieldLink RJ0 9 "java/lang/String" "value" "[B" ∈ xWds := xW1 (List.mem_of_getElem? (i := 1476) (by decide +kernel)) (by decide +kernel)
theorem w_1477 : Cond.fieldLink RJ0 15 "java/lang/String" "coder" "B" ∈ xWds := xW1 (List.mem_of_getElem? (i := 1477) (by decide +kernel)) (by decide +kernel)
theorem cw_0 : xcw 0 = Cond.code (xnm 0) cX0_init 4 none := rfl
theorem cm_0 : xcw 0 ∈ xWds := xW1 (List.mem_of_getElem? (i := 498) (by decide +kernel)) (by decide +kernel)
theorem ini_0 : Cond.initialized (xnm 0).cls ∈ xWds := xW1 (List.mem_of_getElem? (i := 23) (by decide +kernel)) (by decide +kernel)
theorem in_0 : Cond.instanceMethod (xnm 0) ∈ xWds := xW1 (List.mem_of_getElem? (i := 497) (by decide +kernel)) (by decide +kernel)
theorem nm_0 : (xnm 0).cls ≠ "java/lang/invoke/MethodHandle" ∧ (xnm 0).cls ≠ "java/lang/invoke/VarHandle" ∧ (parseMethodDescriptor (xnm 0).desc).map (fun d => d.parameters.length) = some 3 := by decide +kernel
theorem cw_1 : xcw 1 = Cond.code (xnm 1) cX0_isDry 1 (some .boolean) := rfl
theorem cm_1 : xcw 1 ∈ xWds := xW1 (List.mem_of_getElem? (i := 460) (by decide +kernel)) (by decide +kernel)
theorem ini_1 : Cond.initialized (xnm 1).cls ∈ xWds := xW1 (List.mem_of_getElem? (i := 23) (by decide +kernel)) (by decide +kernel)
theorem in_1 : Cond.instanceMethod (xnm 1) ∈ xWds := xW1 (List.mem_of_getElem? (i := 458) (by decide +kernel)) (by decide +kernel)
theorem sel_1 : Cond.selects (xnm 1).cls (xnm 1) (xnm 1) ∈ xWds := xW1 (List.mem_of_getElem? (i := 459) (by decide +kernel)) (by decide +kernel)
theorem nm_1 : (xnm 1).cls ≠ "java/lang/invoke/MethodHandle" ∧ (xnm 1).cls ≠ "java/lang/invoke/VarHandle" ∧ (parseMethodDescriptor (xnm 1).desc).map (fun d => d.parameters.length) = some 0 := by decide +kernel
theorem ns_1 : (xnm 1).name ≠ "<init>" ∧ (parseMethodDescriptor (xnm 1).desc).map (fun d => d.parameters.length) = some 0 := by decide +kernel
theorem cw_2 : xcw 2 = Cond.code (xnm 2) cX0_bondsOn 2 (some .boolean) := rfl
theorem cm_2 : xcw 2 ∈ xWds := xW1 (List.mem_of_getElem? (i := 537) (by decide +kernel)) (by decide +kernel)
theorem ini_2 : Cond.initialized (xnm 2).cls ∈ xWds := xW1 (List.mem_of_getElem? (i := 23) (by decide +kernel)) (by decide +kernel)
theorem in_2 : Cond.instanceMethod (xnm 2) ∈ xWds := xW1 (List.mem_of_getElem? (i := 535) (by decide +kernel)) (by decide +kernel)
theorem sel_2 : Cond.selects (xnm 2).cls (xnm 2) (xnm 2) ∈ xWds := xW1 (List.mem_of_getElem? (i := 536) (by decide +kernel)) (by decide +kernel)
theorem nm_2 : (xnm 2).cls ≠ "java/lang/invoke/MethodHandle" ∧ (xnm 2).cls ≠ "java/lang/invoke/VarHandle" ∧ (parseMethodDescriptor (xnm 2).desc).map (fun d => d.parameters.length) = some 1 := by decide +kernel
theorem ns_2 : (xnm 2).name ≠ "<init>" ∧ (parseMethodDescriptor (xnm 2).desc).map (fun d => d.parameters.length) = some 1 := by decide +kernel
theorem cw_3 : xcw 3 = Cond.code (xnm 3) cX0_driesBy 3 (some .boolean) := rfl
theorem cm_3 : xcw 3 ∈ xWds := xW1 (List.mem_of_getElem? (i := 611) (by decide +kernel)) (by decide +kernel)
theorem ini_3 : Cond.initialized (xnm 3).cls ∈ xWds := xW1 (List.mem_of_getElem? (i := 23) (by decide +kernel)) (by decide +kernel)
theorem in_3 : Cond.instanceMethod (xnm 3) ∈ xWds := xW1 (List.mem_of_getElem? (i := 609) (by decide +kernel)) (by decide +kernel)
theorem sel_3 : Cond.selects (xnm 3).cls (xnm 3) (xnm 3) ∈ xWds := xW1 (List.mem_of_getElem? (i := 610) (by decide +kernel)) (by decide +kernel)
theorem nm_3 : (xnm 3).cls ≠ "java/lang/invoke/MethodHandle" ∧ (xnm 3).cls ≠ "java/lang/invoke/VarHandle" ∧ (parseMethodDescriptor (xnm 3).desc).map (fun d => d.parameters.length) = some 2 := by decide +kernel
theorem ns_3 : (xnm 3).name ≠ "<init>" ∧ (parseMethodDescriptor (xnm 3).desc).map (fun d => d.parameters.length) = some 2 := by decide +kernel
theorem cw_4 : xcw 4 = Cond.code (xnm 4) cX0_countPaid 2 (some .int) := rfl
theorem cm_4 : xcw 4 ∈ xWds := xW1 (List.mem_of_getElem? (i := 1111) (by decide +kernel)) (by decide +kernel)
theorem ini_4 : Cond.initialized (xnm 4).cls ∈ xWds := xW1 (List.mem_of_getElem? (i := 23) (by decide +kernel)) (by decide +kernel)
theorem in_4 : Cond.instanceMethod (xnm 4) ∈ xWds := xW1 (List.mem_of_getElem? (i := 1109) (by decide +kernel)) (by decide +kernel)
theorem sel_4 : Cond.selects (xnm 4).cls (xnm 4) (xnm 4) ∈ xWds := xW1 (List.mem_of_getElem? (i := 1110) (by decide +kernel)) (by decide +kernel)
theorem nm_4 : (xnm 4).cls ≠ "java/lang/invoke/MethodHandle" ∧ (xnm 4).cls ≠ "java/lang/invoke/VarHandle" ∧ (parseMethodDescriptor (xnm 4).desc).map (fun d => d.parameters.length) = some 1 := by decide +kernel
theorem ns_4 : (xnm 4).name ≠ "<init>" ∧ (parseMethodDescriptor (xnm 4).desc).map (fun d => d.parameters.length) = some 1 := by decide +kernel
theorem cw_5 : xcw 5 = Cond.code (xnm 5) cX0_inWords 2 (some (.object "java/lang/StringBuilder")) := rfl
theorem cm_5 : xcw 5 ∈ xWds := xW1 (List.mem_of_getElem? (i := 657) (by decide +kernel)) (by decide +kernel)
theorem ini_5 : Cond.initialized (xnm 5).cls ∈ xWds := xW1 (List.mem_of_getElem? (i := 23) (by decide +kernel)) (by decide +kernel)
theorem in_5 : Cond.instanceMethod (xnm 5) ∈ xWds := xW1 (List.mem_of_getElem? (i := 655) (by decide +kernel)) (by decide +kernel)
theorem sel_5 : Cond.selects (xnm 5).cls (xnm 5) (xnm 5) ∈ xWds := xW1 (List.mem_of_getElem? (i := 656) (by decide +kernel)) (by decide +kernel)
theorem nm_5 : (xnm 5).cls ≠ "java/lang/invoke/MethodHandle" ∧ (xnm 5).cls ≠ "java/lang/invoke/VarHandle" ∧ (parseMethodDescriptor (xnm 5).desc).map (fun d => d.parameters.length) = some 0 := by decide +kernel
theorem ns_5 : (xnm 5).name ≠ "<init>" ∧ (parseMethodDescriptor (xnm 5).desc).map (fun d => d.parameters.length) = some 0 := by decide +kernel
theorem cw_6 : xcw 6 = Cond.code (xnm 6) cX1_init 5 none := rfl
theorem cm_6 : xcw 6 ∈ xWds := xW1 (List.mem_of_getElem? (i := 470) (by decide +kernel)) (by decide +kernel)
theorem ini_6 : Cond.initialized (xnm 6).cls ∈ xWds := xW1 (List.mem_of_getElem? (i := 22) (by decide +kernel)) (by decide +kernel)
theorem in_6 : Cond.instanceMethod (xnm 6) ∈ xWds := xW1 (List.mem_of_getElem? (i := 469) (by decide +kernel)) (by decide +kernel)
theorem nm_6 : (xnm 6).cls ≠ "java/lang/invoke/MethodHandle" ∧ (xnm 6).cls ≠ "java/lang/invoke/VarHandle" ∧ (parseMethodDescriptor (xnm 6).desc).map (fun d => d.parameters.length) = some 4 := by decide +kernel
theorem cw_7 : xcw 7 = Cond.code (xnm 7) cX1_isOf 3 (some .boolean) := rfl
theorem cm_7 : xcw 7 ∈ xWds := xW1 (List.mem_of_getElem? (i := 645) (by decide +kernel)) (by decide +kernel)
theorem ini_7 : Cond.initialized (xnm 7).cls ∈ xWds := xW1 (List.mem_of_getElem? (i := 22) (by decide +kernel)) (by decide +kernel)
theorem in_7 : Cond.instanceMethod (xnm 7) ∈ xWds := xW1 (List.mem_of_getElem? (i := 643) (by decide +kernel)) (by decide +kernel)
theorem sel_7 : Cond.selects (xnm 7).cls (xnm 7) (xnm 7) ∈ xWds := xW1 (List.mem_of_getElem? (i := 644) (by decide +kernel)) (by decide +kernel)
theorem nm_7 : (xnm 7).cls ≠ "java/lang/invoke/MethodHandle" ∧ (xnm 7).cls ≠ "java/lang/invoke/VarHandle" ∧ (parseMethodDescriptor (xnm 7).desc).map (fun d => d.parameters.length) = some 2 := by decide +kernel
theorem ns_7 : (xnm 7).name ≠ "<init>" ∧ (parseMethodDescriptor (xnm 7).desc).map (fun d => d.parameters.length) = some 2 := by decide +kernel
theorem cw_8 : xcw 8 = Cond.code (xnm 8) cX2_init 2 none := rfl
theorem cm_8 : xcw 8 ∈ xWds := xW1 (List.mem_of_getElem? (i := 86) (by decide +kernel)) (by decide +kernel)
theorem ini_8 : Cond.initialized (xnm 8).cls ∈ xWds := xW1 (List.mem_of_getElem? (i := 6) (by decide +kernel)) (by decide +kernel)
theorem in_8 : Cond.instanceMethod (xnm 8) ∈ xWds := xW1 (List.mem_of_getElem? (i := 85) (by decide +kernel)) (by decide +kernel)
theorem nm_8 : (xnm 8).cls ≠ "java/lang/invoke/MethodHandle" ∧ (xnm 8).cls ≠ "java/lang/invoke/VarHandle" ∧ (parseMethodDescriptor (xnm 8).desc).map (fun d => d.parameters.length) = some 0 := by decide +kernel
theorem cw_9 : xcw 9 = Cond.code (xnm 9) cX2_windowOf 2 (some .int) := rfl
theorem cm_9 : xcw 9 ∈ xWds := xW1 (List.mem_of_getElem? (i := 977) (by decide +kernel)) (by decide +kernel)
theorem ini_9 : Cond.initialized (xnm 9).cls ∈ xWds := xW1 (List.mem_of_getElem? (i := 6) (by decide +kernel)) (by decide +kernel)
theorem in_9 : Cond.instanceMethod (xnm 9) ∈ xWds := xW1 (List.mem_of_getElem? (i := 975) (by decide +kernel)) (by decide +kernel)
theorem sel_9 : Cond.selects (xnm 9).cls (xnm 9) (xnm 9) ∈ xWds := xW1 (List.mem_of_getElem? (i := 976) (by decide +kernel)) (by decide +kernel)
theorem nm_9 : (xnm 9).cls ≠ "java/lang/invoke/MethodHandle" ∧ (xnm 9).cls ≠ "java/lang/invoke/VarHandle" ∧ (parseMethodDescriptor (xnm 9).desc).map (fun d => d.parameters.length) = some 1 := by decide +kernel
theorem ns_9 : (xnm 9).name ≠ "<init>" ∧ (parseMethodDescriptor (xnm 9).desc).map (fun d => d.parameters.length) = some 1 := by decide +kernel
theorem cw_10 : xcw 10 = Cond.code (xnm 10) cX2_setWindow 3 none := rfl
theorem cm_10 : xcw 10 ∈ xWds := xW1 (List.mem_of_getElem? (i := 981) (by decide +kernel)) (by decide +kernel)
theorem ini_10 : Cond.initialized (xnm 10).cls ∈ xWds := xW1 (List.mem_of_getElem? (i := 6) (by decide +kernel)) (by decide +kernel)
theorem in_10 : Cond.instanceMethod (xnm 10) ∈ xWds := xW1 (List.mem_of_getElem? (i := 979) (by decide +kernel)) (by decide +kernel)
theorem sel_10 : Cond.selects (xnm 10).cls (xnm 10) (xnm 10) ∈ xWds := xW1 (List.mem_of_getElem? (i := 980) (by decide +kernel)) (by decide +kernel)
theorem nm_10 : (xnm 10).cls ≠ "java/lang/invoke/MethodHandle" ∧ (xnm 10).cls ≠ "java/lang/invoke/VarHandle" ∧ (parseMethodDescriptor (xnm 10).desc).map (fun d => d.parameters.length) = some 2 := by decide +kernel
theorem ns_10 : (xnm 10).name ≠ "<init>" ∧ (parseMethodDescriptor (xnm 10).desc).map (fun d => d.parameters.length) = some 2 := by decide +kernel
theorem cw_11 : xcw 11 = Cond.code (xnm 11) cX2_countPatches 1 (some .int) := rfl
theorem cm_11 : xcw 11 ∈ xWds := xW1 (List.mem_of_getElem? (i := 993) (by decide +kernel)) (by decide +kernel)
theorem ini_11 : Cond.initialized (xnm 11).cls ∈ xWds := xW1 (List.mem_of_getElem? (i := 6) (by decide +kernel)) (by decide +kernel)
theorem in_11 : Cond.instanceMethod (xnm 11) ∈ xWds := xW1 (List.mem_of_getElem? (i := 991) (by decide +kernel)) (by decide +kernel)
theorem sel_11 : Cond.selects (xnm 11).cls (xnm 11) (xnm 11) ∈ xWds := xW1 (List.mem_of_getElem? (i := 992) (by decide +kernel)) (by decide +kernel)
theorem nm_11 : (xnm 11).cls ≠ "java/lang/invoke/MethodHandle" ∧ (xnm 11).cls ≠ "java/lang/invoke/VarHandle" ∧ (parseMethodDescriptor (xnm 11).desc).map (fun d => d.parameters.length) = some 0 := by decide +kernel
theorem ns_11 : (xnm 11).name ≠ "<init>" ∧ (parseMethodDescriptor (xnm 11).desc).map (fun d => d.parameters.length) = some 0 := by decide +kernel
theorem cw_12 : xcw 12 = Cond.code (xnm 12) cX2_patchAt 2 (some (.object "Stuccohand$Patch")) := rfl
theorem cm_12 : xcw 12 ∈ xWds := xW1 (List.mem_of_getElem? (i := 1040) (by decide +kernel)) (by decide +kernel)
theorem ini_12 : Cond.initialized (xnm 12).cls ∈ xWds := xW1 (List.mem_of_getElem? (i := 6) (by decide +kernel)) (by decide +kernel)
theorem in_12 : Cond.instanceMethod (xnm 12) ∈ xWds := xW1 (List.mem_of_getElem? (i := 1038) (by decide +kernel)) (by decide +kernel)
theorem sel_12 : Cond.selects (xnm 12).cls (xnm 12) (xnm 12) ∈ xWds := xW1 (List.mem_of_getElem? (i := 1039) (by decide +kernel)) (by decide +kernel)
theorem nm_12 : (xnm 12).cls ≠ "java/lang/invoke/MethodHandle" ∧ (xnm 12).cls ≠ "java/lang/invoke/VarHandle" ∧ (parseMethodDescriptor (xnm 12).desc).map (fun d => d.parameters.length) = some 1 := by decide +kernel
theorem ns_12 : (xnm 12).name ≠ "<init>" ∧ (parseMethodDescriptor (xnm 12).desc).map (fun d => d.parameters.length) = some 1 := by decide +kernel
theorem cw_13 : xcw 13 = Cond.code (xnm 13) cX10_hasCell 3 (some .boolean) := rfl
theorem cm_13 : xcw 13 ∈ xWds := xW1 (List.mem_of_getElem? (i := 1009) (by decide +kernel)) (by decide +kernel)
theorem ini_13 : Cond.initialized (xnm 13).cls ∈ xWds := xW1 (List.mem_of_getElem? (i := 1) (by decide +kernel)) (by decide +kernel)
theorem st_13 : Cond.static (xnm 13) ∈ xWds := xW1 (List.mem_of_getElem? (i := 1008) (by decide +kernel)) (by decide +kernel)
theorem nm_13 : (xnm 13).cls ≠ "java/lang/invoke/MethodHandle" ∧ (xnm 13).cls ≠ "java/lang/invoke/VarHandle" ∧ (parseMethodDescriptor (xnm 13).desc).map (fun d => d.parameters.length) = some 2 := by decide +kernel
theorem ns_13 : (xnm 13).name ≠ "<init>" ∧ (parseMethodDescriptor (xnm 13).desc).map (fun d => d.parameters.length) = some 2 := by decide +kernel
theorem cw_14 : xcw 14 = Cond.code (xnm 14) cX2_setColour 6 none := rfl
theorem cm_14 : xcw 14 ∈ xWds := xW1 (List.mem_of_getElem? (i := 1006) (by decide +kernel)) (by decide +kernel)
theorem ini_14 : Cond.initialized (xnm 14).cls ∈ xWds := xW1 (List.mem_of_getElem? (i := 6) (by decide +kernel)) (by decide +kernel)
theorem in_14 : Cond.instanceMethod (xnm 14) ∈ xWds := xW1 (List.mem_of_getElem? (i := 1004) (by decide +kernel)) (by decide +kernel)
theorem sel_14 : Cond.selects (xnm 14).cls (xnm 14) (xnm 14) ∈ xWds := xW1 (List.mem_of_getElem? (i := 1005) (by decide +kernel)) (by decide +kernel)
theorem nm_14 : (xnm 14).cls ≠ "java/lang/invoke/MethodHandle" ∧ (xnm 14).cls ≠ "java/lang/invoke/VarHandle" ∧ (parseMethodDescriptor (xnm 14).desc).map (fun d => d.parameters.length) = some 3 := by decide +kernel
theorem ns_14 : (xnm 14).name ≠ "<init>" ∧ (parseMethodDescriptor (xnm 14).desc).map (fun d => d.parameters.length) = some 3 := by decide +kernel
theorem cw_15 : xcw 15 = Cond.code (xnm 15) cX5_init 4 none := rfl
theorem cm_15 : xcw 15 ∈ xWds := xW1 (List.mem_of_getElem? (i := 1013) (by decide +kernel)) (by decide +kernel)
theorem ini_15 : Cond.initialized (xnm 15).cls ∈ xWds := xW1 (List.mem_of_getElem? (i := 34) (by decide +kernel)) (by decide +kernel)
theorem in_15 : Cond.instanceMethod (xnm 15) ∈ xWds := xW1 (List.mem_of_getElem? (i := 1012) (by decide +kernel)) (by decide +kernel)
theorem nm_15 : (xnm 15).cls ≠ "java/lang/invoke/MethodHandle" ∧ (xnm 15).cls ≠ "java/lang/invoke/VarHandle" ∧ (parseMethodDescriptor (xnm 15).desc).map (fun d => d.parameters.length) = some 2 := by decide +kernel
theorem cw_16 : xcw 16 = Cond.code (xnm 16) cX2_layPatch 5 none := rfl
theorem cm_16 : xcw 16 ∈ xWds := xW1 (List.mem_of_getElem? (i := 999) (by decide +kernel)) (by decide +kernel)
theorem ini_16 : Cond.initialized (xnm 16).cls ∈ xWds := xW1 (List.mem_of_getElem? (i := 6) (by decide +kernel)) (by decide +kernel)
theorem in_16 : Cond.instanceMethod (xnm 16) ∈ xWds := xW1 (List.mem_of_getElem? (i := 997) (by decide +kernel)) (by decide +kernel)
theorem sel_16 : Cond.selects (xnm 16).cls (xnm 16) (xnm 16) ∈ xWds := xW1 (List.mem_of_getElem? (i := 998) (by decide +kernel)) (by decide +kernel)
theorem nm_16 : (xnm 16).cls ≠ "java/lang/invoke/MethodHandle" ∧ (xnm 16).cls ≠ "java/lang/invoke/VarHandle" ∧ (parseMethodDescriptor (xnm 16).desc).map (fun d => d.parameters.length) = some 2 := by decide +kernel
theorem ns_16 : (xnm 16).name ≠ "<init>" ∧ (parseMethodDescriptor (xnm 16).desc).map (fun d => d.parameters.length) = some 2 := by decide +kernel
theorem cw_17 : xcw 17 = Cond.code (xnm 17) cX2_patchWith 3 (some .int) := rfl
theorem cm_17 : xcw 17 ∈ xWds := xW1 (List.mem_of_getElem? (i := 1055) (by decide +kernel)) (by decide +kernel)
theorem ini_17 : Cond.initialized (xnm 17).cls ∈ xWds := xW1 (List.mem_of_getElem? (i := 6) (by decide +kernel)) (by decide +kernel)
theorem in_17 : Cond.instanceMethod (xnm 17) ∈ xWds := xW1 (List.mem_of_getElem? (i := 1053) (by decide +kernel)) (by decide +kernel)
theorem sel_17 : Cond.selects (xnm 17).cls (xnm 17) (xnm 17) ∈ xWds := xW1 (List.mem_of_getElem? (i := 1054) (by decide +kernel)) (by decide +kernel)
theorem nm_17 : (xnm 17).cls ≠ "java/lang/invoke/MethodHandle" ∧ (xnm 17).cls ≠ "java/lang/invoke/VarHandle" ∧ (parseMethodDescriptor (xnm 17).desc).map (fun d => d.parameters.length) = some 1 := by decide +kernel
theorem ns_17 : (xnm 17).name ≠ "<init>" ∧ (parseMethodDescriptor (xnm 17).desc).map (fun d => d.parameters.length) = some 1 := by decide +kernel
theorem cw_18 : xcw 18 = Cond.code (xnm 18) cX2_pigmentOn 2 (some .int) := rfl
theorem cm_18 : xcw 18 ∈ xWds := xW1 (List.mem_of_getElem? (i := 1059) (by decide +kernel)) (by decide +kernel)
theorem ini_18 : Cond.initialized (xnm 18).cls ∈ xWds := xW1 (List.mem_of_getElem? (i := 6) (by decide +kernel)) (by decide +kernel)
theorem in_18 : Cond.instanceMethod (xnm 18) ∈ xWds := xW1 (List.mem_of_getElem? (i := 1057) (by decide +kernel)) (by decide +kernel)
theorem sel_18 : Cond.selects (xnm 18).cls (xnm 18) (xnm 18) ∈ xWds := xW1 (List.mem_of_getElem? (i := 1058) (by decide +kernel)) (by decide +kernel)
theorem nm_18 : (xnm 18).cls ≠ "java/lang/invoke/MethodHandle" ∧ (xnm 18).cls ≠ "java/lang/invoke/VarHandle" ∧ (parseMethodDescriptor (xnm 18).desc).map (fun d => d.parameters.length) = some 1 := by decide +kernel
theorem ns_18 : (xnm 18).name ≠ "<init>" ∧ (parseMethodDescriptor (xnm 18).desc).map (fun d => d.parameters.length) = some 1 := by decide +kernel
theorem cw_19 : xcw 19 = Cond.code (xnm 19) cX2_isSecco 2 (some .boolean) := rfl
theorem cm_19 : xcw 19 ∈ xWds := xW1 (List.mem_of_getElem? (i := 1063) (by decide +kernel)) (by decide +kernel)
theorem ini_19 : Cond.initialized (xnm 19).cls ∈ xWds := xW1 (List.mem_of_getElem? (i := 6) (by decide +kernel)) (by decide +kernel)
theorem in_19 : Cond.instanceMethod (xnm 19) ∈ xWds := xW1 (List.mem_of_getElem? (i := 1061) (by decide +kernel)) (by decide +kernel)
theorem sel_19 : Cond.selects (xnm 19).cls (xnm 19) (xnm 19) ∈ xWds := xW1 (List.mem_of_getElem? (i := 1062) (by decide +kernel)) (by decide +kernel)
theorem nm_19 : (xnm 19).cls ≠ "java/lang/invoke/MethodHandle" ∧ (xnm 19).cls ≠ "java/lang/invoke/VarHandle" ∧ (parseMethodDescriptor (xnm 19).desc).map (fun d => d.parameters.length) = some 1 := by decide +kernel
theorem ns_19 : (xnm 19).name ≠ "<init>" ∧ (parseMethodDescriptor (xnm 19).desc).map (fun d => d.parameters.length) = some 1 := by decide +kernel
theorem cw_20 : xcw 20 = Cond.code (xnm 20) cX2_countMetBefore 6 (some .int) := rfl
theorem cm_20 : xcw 20 ∈ xWds := xW1 (List.mem_of_getElem? (i := 1074) (by decide +kernel)) (by decide +kernel)
theorem ini_20 : Cond.initialized (xnm 20).cls ∈ xWds := xW1 (List.mem_of_getElem? (i := 6) (by decide +kernel)) (by decide +kernel)
theorem in_20 : Cond.instanceMethod (xnm 20) ∈ xWds := xW1 (List.mem_of_getElem? (i := 1072) (by decide +kernel)) (by decide +kernel)
theorem sel_20 : Cond.selects (xnm 20).cls (xnm 20) (xnm 20) ∈ xWds := xW1 (List.mem_of_getElem? (i := 1073) (by decide +kernel)) (by decide +kernel)
theorem nm_20 : (xnm 20).cls ≠ "java/lang/invoke/MethodHandle" ∧ (xnm 20).cls ≠ "java/lang/invoke/VarHandle" ∧ (parseMethodDescriptor (xnm 20).desc).map (fun d => d.parameters.length) = some 2 := by decide +kernel
theorem ns_20 : (xnm 20).name ≠ "<init>" ∧ (parseMethodDescriptor (xnm 20).desc).map (fun d => d.parameters.length) = some 2 := by decide +kernel
theorem cw_21 : xcw 21 = Cond.code (xnm 21) cX4_init 1 none := rfl
theorem cm_21 : xcw 21 ∈ xWds := xW1 (List.mem_of_getElem? (i := 74) (by decide +kernel)) (by decide +kernel)
theorem ini_21 : Cond.initialized (xnm 21).cls ∈ xWds := xW1 (List.mem_of_getElem? (i := 5) (by decide +kernel)) (by decide +kernel)
theorem in_21 : Cond.instanceMethod (xnm 21) ∈ xWds := xW1 (List.mem_of_getElem? (i := 73) (by decide +kernel)) (by decide +kernel)
theorem nm_21 : (xnm 21).cls ≠ "java/lang/invoke/MethodHandle" ∧ (xnm 21).cls ≠ "java/lang/invoke/VarHandle" ∧ (parseMethodDescriptor (xnm 21).desc).map (fun d => d.parameters.length) = some 0 := by decide +kernel
theorem cw_22 : xcw 22 = Cond.code (xnm 22) cX4_isFull 1 (some .boolean) := rfl
theorem cm_22 : xcw 22 ∈ xWds := xW1 (List.mem_of_getElem? (i := 435) (by decide +kernel)) (by decide +kernel)
theorem ini_22 : Cond.initialized (xnm 22).cls ∈ xWds := xW1 (List.mem_of_getElem? (i := 5) (by decide +kernel)) (by decide +kernel)
theorem in_22 : Cond.instanceMethod (xnm 22) ∈ xWds := xW1 (List.mem_of_getElem? (i := 433) (by decide +kernel)) (by decide +kernel)
theorem sel_22 : Cond.selects (xnm 22).cls (xnm 22) (xnm 22) ∈ xWds := xW1 (List.mem_of_getElem? (i := 434) (by decide +kernel)) (by decide +kernel)
theorem nm_22 : (xnm 22).cls ≠ "java/lang/invoke/MethodHandle" ∧ (xnm 22).cls ≠ "java/lang/invoke/VarHandle" ∧ (parseMethodDescriptor (xnm 22).desc).map (fun d => d.parameters.length) = some 0 := by decide +kernel
theorem ns_22 : (xnm 22).name ≠ "<init>" ∧ (parseMethodDescriptor (xnm 22).desc).map (fun d => d.parameters.length) = some 0 := by decide +kernel
theorem cw_23 : xcw 23 = Cond.code (xnm 23) cX4_note 5 none := rfl
theorem cm_23 : xcw 23 ∈ xWds := xW1 (List.mem_of_getElem? (i := 465) (by decide +kernel)) (by decide +kernel)
theorem ini_23 : Cond.initialized (xnm 23).cls ∈ xWds := xW1 (List.mem_of_getElem? (i := 5) (by decide +kernel)) (by decide +kernel)
theorem in_23 : Cond.instanceMethod (xnm 23) ∈ xWds := xW1 (List.mem_of_getElem? (i := 463) (by decide +kernel)) (by decide +kernel)
theorem sel_23 : Cond.selects (xnm 23).cls (xnm 23) (xnm 23) ∈ xWds := xW1 (List.mem_of_getElem? (i := 464) (by decide +kernel)) (by decide +kernel)
theorem nm_23 : (xnm 23).cls ≠ "java/lang/invoke/MethodHandle" ∧ (xnm 23).cls ≠ "java/lang/invoke/VarHandle" ∧ (parseMethodDescriptor (xnm 23).desc).map (fun d => d.parameters.length) = some 4 := by decide +kernel
theorem ns_23 : (xnm 23).name ≠ "<init>" ∧ (parseMethodDescriptor (xnm 23).desc).map (fun d => d.parameters.length) = some 4 := by decide +kernel
theorem cw_24 : xcw 24 = Cond.code (xnm 24) cX4_countCoats 6 (some .int) := rfl
theorem cm_24 : xcw 24 ∈ xWds := xW1 (List.mem_of_getElem? (i := 640) (by decide +kernel)) (by decide +kernel)
theorem ini_24 : Cond.initialized (xnm 24).cls ∈ xWds := xW1 (List.mem_of_getElem? (i := 5) (by decide +kernel)) (by decide +kernel)
theorem in_24 : Cond.instanceMethod (xnm 24) ∈ xWds := xW1 (List.mem_of_getElem? (i := 638) (by decide +kernel)) (by decide +kernel)
theorem sel_24 : Cond.selects (xnm 24).cls (xnm 24) (xnm 24) ∈ xWds := xW1 (List.mem_of_getElem? (i := 639) (by decide +kernel)) (by decide +kernel)
theorem nm_24 : (xnm 24).cls ≠ "java/lang/invoke/MethodHandle" ∧ (xnm 24).cls ≠ "java/lang/invoke/VarHandle" ∧ (parseMethodDescriptor (xnm 24).desc).map (fun d => d.parameters.length) = some 2 := by decide +kernel
theorem ns_24 : (xnm 24).name ≠ "<init>" ∧ (parseMethodDescriptor (xnm 24).desc).map (fun d => d.parameters.length) = some 2 := by decide +kernel
theorem cw_25 : xcw 25 = Cond.code (xnm 25) cX7_init 2 none := rfl
theorem cm_25 : xcw 25 ∈ xWds := xW1 (List.mem_of_getElem? (i := 876) (by decide +kernel)) (by decide +kernel)
theorem ini_25 : Cond.initialized (xnm 25).cls ∈ xWds := xW1 (List.mem_of_getElem? (i := 33) (by decide +kernel)) (by decide +kernel)
theorem in_25 : Cond.instanceMethod (xnm 25) ∈ xWds := xW1 (List.mem_of_getElem? (i := 875) (by decide +kernel)) (by decide +kernel)
theorem nm_25 : (xnm 25).cls ≠ "java/lang/invoke/MethodHandle" ∧ (xnm 25).cls ≠ "java/lang/invoke/VarHandle" ∧ (parseMethodDescriptor (xnm 25).desc).map (fun d => d.parameters.length) = some 1 := by decide +kernel
theorem cw_26 : xcw 26 = Cond.code (xnm 26) cX7_countDepths 1 (some .int) := rfl
theorem cm_26 : xcw 26 ∈ xWds := xW1 (List.mem_of_getElem? (i := 909) (by decide +kernel)) (by decide +kernel)
theorem ini_26 : Cond.initialized (xnm 26).cls ∈ xWds := xW1 (List.mem_of_getElem? (i := 33) (by decide +kernel)) (by decide +kernel)
theorem in_26 : Cond.instanceMethod (xnm 26) ∈ xWds := xW1 (List.mem_of_getElem? (i := 907) (by decide +kernel)) (by decide +kernel)
theorem sel_26 : Cond.selects (xnm 26).cls (xnm 26) (xnm 26) ∈ xWds := xW1 (List.mem_of_getElem? (i := 908) (by decide +kernel)) (by decide +kernel)
theorem nm_26 : (xnm 26).cls ≠ "java/lang/invoke/MethodHandle" ∧ (xnm 26).cls ≠ "java/lang/invoke/VarHandle" ∧ (parseMethodDescriptor (xnm 26).desc).map (fun d => d.parameters.length) = some 0 := by decide +kernel
theorem ns_26 : (xnm 26).name ≠ "<init>" ∧ (parseMethodDescriptor (xnm 26).desc).map (fun d => d.parameters.length) = some 0 := by decide +kernel
theorem cw_27 : xcw 27 = Cond.code (xnm 27) cX7_isFull 1 (some .boolean) := rfl
theorem cm_27 : xcw 27 ∈ xWds := xW1 (List.mem_of_getElem? (i := 900) (by decide +kernel)) (by decide +kernel)
theorem ini_27 : Cond.initialized (xnm 27).cls ∈ xWds := xW1 (List.mem_of_getElem? (i := 33) (by decide +kernel)) (by decide +kernel)
theorem in_27 : Cond.instanceMethod (xnm 27) ∈ xWds := xW1 (List.mem_of_getElem? (i := 898) (by decide +kernel)) (by decide +kernel)
theorem sel_27 : Cond.selects (xnm 27).cls (xnm 27) (xnm 27) ∈ xWds := xW1 (List.mem_of_getElem? (i := 899) (by decide +kernel)) (by decide +kernel)
theorem nm_27 : (xnm 27).cls ≠ "java/lang/invoke/MethodHandle" ∧ (xnm 27).cls ≠ "java/lang/invoke/VarHandle" ∧ (parseMethodDescriptor (xnm 27).desc).map (fun d => d.parameters.length) = some 0 := by decide +kernel
theorem ns_27 : (xnm 27).name ≠ "<init>" ∧ (parseMethodDescriptor (xnm 27).desc).map (fun d => d.parameters.length) = some 0 := by decide +kernel
theorem cw_28 : xcw 28 = Cond.code (xnm 28) cX7_append 2 none := rfl
theorem cm_28 : xcw 28 ∈ xWds := xW1 (List.mem_of_getElem? (i := 905) (by decide +kernel)) (by decide +kernel)
theorem ini_28 : Cond.initialized (xnm 28).cls ∈ xWds := xW1 (List.mem_of_getElem? (i := 33) (by decide +kernel)) (by decide +kernel)
theorem in_28 : Cond.instanceMethod (xnm 28) ∈ xWds := xW1 (List.mem_of_getElem? (i := 903) (by decide +kernel)) (by decide +kernel)
theorem sel_28 : Cond.selects (xnm 28).cls (xnm 28) (xnm 28) ∈ xWds := xW1 (List.mem_of_getElem? (i := 904) (by decide +kernel)) (by decide +kernel)
theorem nm_28 : (xnm 28).cls ≠ "java/lang/invoke/MethodHandle" ∧ (xnm 28).cls ≠ "java/lang/invoke/VarHandle" ∧ (parseMethodDescriptor (xnm 28).desc).map (fun d => d.parameters.length) = some 1 := by decide +kernel
theorem ns_28 : (xnm 28).name ≠ "<init>" ∧ (parseMethodDescriptor (xnm 28).desc).map (fun d => d.parameters.length) = some 1 := by decide +kernel
theorem cw_29 : xcw 29 = Cond.code (xnm 29) cX7_depthAt 3 (some .int) := rfl
theorem cm_29 : xcw 29 ∈ xWds := xW1 (List.mem_of_getElem? (i := 923) (by decide +kernel)) (by decide +kernel)
theorem ini_29 : Cond.initialized (xnm 29).cls ∈ xWds := xW1 (List.mem_of_getElem? (i := 33) (by decide +kernel)) (by decide +kernel)
theorem in_29 : Cond.instanceMethod (xnm 29) ∈ xWds := xW1 (List.mem_of_getElem? (i := 921) (by decide +kernel)) (by decide +kernel)
theorem sel_29 : Cond.selects (xnm 29).cls (xnm 29) (xnm 29) ∈ xWds := xW1 (List.mem_of_getElem? (i := 922) (by decide +kernel)) (by decide +kernel)
theorem nm_29 : (xnm 29).cls ≠ "java/lang/invoke/MethodHandle" ∧ (xnm 29).cls ≠ "java/lang/invoke/VarHandle" ∧ (parseMethodDescriptor (xnm 29).desc).map (fun d => d.parameters.length) = some 1 := by decide +kernel
theorem ns_29 : (xnm 29).name ≠ "<init>" ∧ (parseMethodDescriptor (xnm 29).desc).map (fun d => d.parameters.length) = some 1 := by decide +kernel
theorem cw_30 : xcw 30 = Cond.code (xnm 30) cX8_init 2 none := rfl
theorem cm_30 : xcw 30 ∈ xWds := xW1 (List.mem_of_getElem? (i := 258) (by decide +kernel)) (by decide +kernel)
theorem ini_30 : Cond.initialized (xnm 30).cls ∈ xWds := xW1 (List.mem_of_getElem? (i := 14) (by decide +kernel)) (by decide +kernel)
theorem in_30 : Cond.instanceMethod (xnm 30) ∈ xWds := xW1 (List.mem_of_getElem? (i := 257) (by decide +kernel)) (by decide +kernel)
theorem nm_30 : (xnm 30).cls ≠ "java/lang/invoke/MethodHandle" ∧ (xnm 30).cls ≠ "java/lang/invoke/VarHandle" ∧ (parseMethodDescriptor (xnm 30).desc).map (fun d => d.parameters.length) = some 1 := by decide +kernel
theorem cw_31 : xcw 31 = Cond.code (xnm 31) cX8_countCoats 1 (some .int) := rfl
theorem cm_31 : xcw 31 ∈ xWds := xW1 (List.mem_of_getElem? (i := 551) (by decide +kernel)) (by decide +kernel)
theorem ini_31 : Cond.initialized (xnm 31).cls ∈ xWds := xW1 (List.mem_of_getElem? (i := 14) (by decide +kernel)) (by decide +kernel)
theorem in_31 : Cond.instanceMethod (xnm 31) ∈ xWds := xW1 (List.mem_of_getElem? (i := 549) (by decide +kernel)) (by decide +kernel)
theorem sel_31 : Cond.selects (xnm 31).cls (xnm 31) (xnm 31) ∈ xWds := xW1 (List.mem_of_getElem? (i := 550) (by decide +kernel)) (by decide +kernel)
theorem nm_31 : (xnm 31).cls ≠ "java/lang/invoke/MethodHandle" ∧ (xnm 31).cls ≠ "java/lang/invoke/VarHandle" ∧ (parseMethodDescriptor (xnm 31).desc).map (fun d => d.parameters.length) = some 0 := by decide +kernel
theorem ns_31 : (xnm 31).name ≠ "<init>" ∧ (parseMethodDescriptor (xnm 31).desc).map (fun d => d.parameters.length) = some 0 := by decide +kernel
theorem cw_32 : xcw 32 = Cond.code (xnm 32) cX8_coatAt 2 (some (.object "Stuccohand$Coat")) := rfl
theorem cm_32 : xcw 32 ∈ xWds := xW1 (List.mem_of_getElem? (i := 454) (by decide +kernel)) (by decide +kernel)
theorem ini_32 : Cond.initialized (xnm 32).cls ∈ xWds := xW1 (List.mem_of_getElem? (i := 14) (by decide +kernel)) (by decide +kernel)
theorem in_32 : Cond.instanceMethod (xnm 32) ∈ xWds := xW1 (List.mem_of_getElem? (i := 452) (by decide +kernel)) (by decide +kernel)
theorem sel_32 : Cond.selects (xnm 32).cls (xnm 32) (xnm 32) ∈ xWds := xW1 (List.mem_of_getElem? (i := 453) (by decide +kernel)) (by decide +kernel)
theorem nm_32 : (xnm 32).cls ≠ "java/lang/invoke/MethodHandle" ∧ (xnm 32).cls ≠ "java/lang/invoke/VarHandle" ∧ (parseMethodDescriptor (xnm 32).desc).map (fun d => d.parameters.length) = some 1 := by decide +kernel
theorem ns_32 : (xnm 32).name ≠ "<init>" ∧ (parseMethodDescriptor (xnm 32).desc).map (fun d => d.parameters.length) = some 1 := by decide +kernel
theorem cw_33 : xcw 33 = Cond.code (xnm 33) cX8_topCoat 1 (some (.object "Stuccohand$Coat")) := rfl
theorem cm_33 : xcw 33 ∈ xWds := xW1 (List.mem_of_getElem? (i := 450) (by decide +kernel)) (by decide +kernel)
theorem ini_33 : Cond.initialized (xnm 33).cls ∈ xWds := xW1 (List.mem_of_getElem? (i := 14) (by decide +kernel)) (by decide +kernel)
theorem in_33 : Cond.instanceMethod (xnm 33) ∈ xWds := xW1 (List.mem_of_getElem? (i := 448) (by decide +kernel)) (by decide +kernel)
theorem sel_33 : Cond.selects (xnm 33).cls (xnm 33) (xnm 33) ∈ xWds := xW1 (List.mem_of_getElem? (i := 449) (by decide +kernel)) (by decide +kernel)
theorem nm_33 : (xnm 33).cls ≠ "java/lang/invoke/MethodHandle" ∧ (xnm 33).cls ≠ "java/lang/invoke/VarHandle" ∧ (parseMethodDescriptor (xnm 33).desc).map (fun d => d.parameters.length) = some 0 := by decide +kernel
theorem ns_33 : (xnm 33).name ≠ "<init>" ∧ (parseMethodDescriptor (xnm 33).desc).map (fun d => d.parameters.length) = some 0 := by decide +kernel
theorem cw_34 : xcw 34 = Cond.code (xnm 34) cX8_takes 3 (some .boolean) := rfl
theorem cm_34 : xcw 34 ∈ xWds := xW1 (List.mem_of_getElem? (i := 445) (by decide +kernel)) (by decide +kernel)
theorem ini_34 : Cond.initialized (xnm 34).cls ∈ xWds := xW1 (List.mem_of_getElem? (i := 14) (by decide +kernel)) (by decide +kernel)
theorem in_34 : Cond.instanceMethod (xnm 34) ∈ xWds := xW1 (List.mem_of_getElem? (i := 443) (by decide +kernel)) (by decide +kernel)
theorem sel_34 : Cond.selects (xnm 34).cls (xnm 34) (xnm 34) ∈ xWds := xW1 (List.mem_of_getElem? (i := 444) (by decide +kernel)) (by decide +kernel)
theorem nm_34 : (xnm 34).cls ≠ "java/lang/invoke/MethodHandle" ∧ (xnm 34).cls ≠ "java/lang/invoke/VarHandle" ∧ (parseMethodDescriptor (xnm 34).desc).map (fun d => d.parameters.length) = some 1 := by decide +kernel
theorem ns_34 : (xnm 34).name ≠ "<init>" ∧ (parseMethodDescriptor (xnm 34).desc).map (fun d => d.parameters.length) = some 1 := by decide +kernel
theorem cw_35 : xcw 35 = Cond.code (xnm 35) cX8_keysBelow 2 (some .int) := rfl
theorem cm_35 : xcw 35 ∈ xWds := xW1 (List.mem_of_getElem? (i := 533) (by decide +kernel)) (by decide +kernel)
theorem ini_35 : Cond.initialized (xnm 35).cls ∈ xWds := xW1 (List.mem_of_getElem? (i := 14) (by decide +kernel)) (by decide +kernel)
theorem in_35 : Cond.instanceMethod (xnm 35) ∈ xWds := xW1 (List.mem_of_getElem? (i := 532) (by decide +kernel)) (by decide +kernel)
theorem sel_35 : Cond.selects (xnm 35).cls (xnm 35) (xnm 35) ∈ xWds := xWds_in (List.mem_append_left _ (List.mem_of_getElem? (i := 5) (by decide +kernel))) (by decide +kernel)
theorem nm_35 : (xnm 35).cls ≠ "java/lang/invoke/MethodHandle" ∧ (xnm 35).cls ≠ "java/lang/invoke/VarHandle" ∧ (parseMethodDescriptor (xnm 35).desc).map (fun d => d.parameters.length) = some 0 := by decide +kernel
theorem ns_35 : (xnm 35).name ≠ "<init>" ∧ (parseMethodDescriptor (xnm 35).desc).map (fun d => d.parameters.length) = some 0 := by decide +kernel
theorem cw_36 : xcw 36 = Cond.code (xnm 36) cX8_layCoat 5 none := rfl
theorem cm_36 : xcw 36 ∈ xWds := xW1 (List.mem_of_getElem? (i := 494) (by decide +kernel)) (by decide +kernel)
theorem ini_36 : Cond.initialized (xnm 36).cls ∈ xWds := xW1 (List.mem_of_getElem? (i := 14) (by decide +kernel)) (by decide +kernel)
theorem in_36 : Cond.instanceMethod (xnm 36) ∈ xWds := xW1 (List.mem_of_getElem? (i := 492) (by decide +kernel)) (by decide +kernel)
theorem sel_36 : Cond.selects (xnm 36).cls (xnm 36) (xnm 36) ∈ xWds := xW1 (List.mem_of_getElem? (i := 493) (by decide +kernel)) (by decide +kernel)
theorem nm_36 : (xnm 36).cls ≠ "java/lang/invoke/MethodHandle" ∧ (xnm 36).cls ≠ "java/lang/invoke/VarHandle" ∧ (parseMethodDescriptor (xnm 36).desc).map (fun d => d.parameters.length) = some 3 := by decide +kernel
theorem ns_36 : (xnm 36).name ≠ "<init>" ∧ (parseMethodDescriptor (xnm 36).desc).map (fun d => d.parameters.length) = some 3 := by decide +kernel
theorem cw_37 : xcw 37 = Cond.code (xnm 37) cX8_strikeTop 2 none := rfl
theorem cm_37 : xcw 37 ∈ xWds := xW1 (List.mem_of_getElem? (i := 584) (by decide +kernel)) (by decide +kernel)
theorem ini_37 : Cond.initialized (xnm 37).cls ∈ xWds := xW1 (List.mem_of_getElem? (i := 14) (by decide +kernel)) (by decide +kernel)
theorem in_37 : Cond.instanceMethod (xnm 37) ∈ xWds := xW1 (List.mem_of_getElem? (i := 582) (by decide +kernel)) (by decide +kernel)
theorem sel_37 : Cond.selects (xnm 37).cls (xnm 37) (xnm 37) ∈ xWds := xW1 (List.mem_of_getElem? (i := 583) (by decide +kernel)) (by decide +kernel)
theorem nm_37 : (xnm 37).cls ≠ "java/lang/invoke/MethodHandle" ∧ (xnm 37).cls ≠ "java/lang/invoke/VarHandle" ∧ (parseMethodDescriptor (xnm 37).desc).map (fun d => d.parameters.length) = some 0 := by decide +kernel
theorem ns_37 : (xnm 37).name ≠ "<init>" ∧ (parseMethodDescriptor (xnm 37).desc).map (fun d => d.parameters.length) = some 0 := by decide +kernel
theorem cw_38 : xcw 38 = Cond.code (xnm 38) cX8_hasEdgeTo 4 (some .boolean) := rfl
theorem cm_38 : xcw 38 ∈ xWds := xW1 (List.mem_of_getElem? (i := 547) (by decide +kernel)) (by decide +kernel)
theorem ini_38 : Cond.initialized (xnm 38).cls ∈ xWds := xW1 (List.mem_of_getElem? (i := 14) (by decide +kernel)) (by decide +kernel)
theorem in_38 : Cond.instanceMethod (xnm 38) ∈ xWds := xW1 (List.mem_of_getElem? (i := 545) (by decide +kernel)) (by decide +kernel)
theorem sel_38 : Cond.selects (xnm 38).cls (xnm 38) (xnm 38) ∈ xWds := xW1 (List.mem_of_getElem? (i := 546) (by decide +kernel)) (by decide +kernel)
theorem nm_38 : (xnm 38).cls ≠ "java/lang/invoke/MethodHandle" ∧ (xnm 38).cls ≠ "java/lang/invoke/VarHandle" ∧ (parseMethodDescriptor (xnm 38).desc).map (fun d => d.parameters.length) = some 1 := by decide +kernel
theorem ns_38 : (xnm 38).name ≠ "<init>" ∧ (parseMethodDescriptor (xnm 38).desc).map (fun d => d.parameters.length) = some 1 := by decide +kernel
theorem cw_39 : xcw 39 = Cond.code (xnm 39) cX8_countPaid 4 (some .int) := rfl
theorem cm_39 : xcw 39 ∈ xWds := xW1 (List.mem_of_getElem? (i := 1103) (by decide +kernel)) (by decide +kernel)
theorem ini_39 : Cond.initialized (xnm 39).cls ∈ xWds := xW1 (List.mem_of_getElem? (i := 14) (by decide +kernel)) (by decide +kernel)
theorem in_39 : Cond.instanceMethod (xnm 39) ∈ xWds := xW1 (List.mem_of_getElem? (i := 1101) (by decide +kernel)) (by decide +kernel)
theorem sel_39 : Cond.selects (xnm 39).cls (xnm 39) (xnm 39) ∈ xWds := xW1 (List.mem_of_getElem? (i := 1102) (by decide +kernel)) (by decide +kernel)
theorem nm_39 : (xnm 39).cls ≠ "java/lang/invoke/MethodHandle" ∧ (xnm 39).cls ≠ "java/lang/invoke/VarHandle" ∧ (parseMethodDescriptor (xnm 39).desc).map (fun d => d.parameters.length) = some 1 := by decide +kernel
theorem ns_39 : (xnm 39).name ≠ "<init>" ∧ (parseMethodDescriptor (xnm 39).desc).map (fun d => d.parameters.length) = some 1 := by decide +kernel
theorem cw_40 : xcw 40 = Cond.code (xnm 40) cX9_init 4 none := rfl
theorem cm_40 : xcw 40 ∈ xWds := xW1 (List.mem_of_getElem? (i := 250) (by decide +kernel)) (by decide +kernel)
theorem ini_40 : Cond.initialized (xnm 40).cls ∈ xWds := xW1 (List.mem_of_getElem? (i := 13) (by decide +kernel)) (by decide +kernel)
theorem in_40 : Cond.instanceMethod (xnm 40) ∈ xWds := xW1 (List.mem_of_getElem? (i := 249) (by decide +kernel)) (by decide +kernel)
theorem nm_40 : (xnm 40).cls ≠ "java/lang/invoke/MethodHandle" ∧ (xnm 40).cls ≠ "java/lang/invoke/VarHandle" ∧ (parseMethodDescriptor (xnm 40).desc).map (fun d => d.parameters.length) = some 2 := by decide +kernel
theorem cw_41 : xcw 41 = Cond.code (xnm 41) cX9_countStrips 1 (some .int) := rfl
theorem cm_41 : xcw 41 ∈ xWds := xW1 (List.mem_of_getElem? (i := 414) (by decide +kernel)) (by decide +kernel)
theorem ini_41 : Cond.initialized (xnm 41).cls ∈ xWds := xW1 (List.mem_of_getElem? (i := 13) (by decide +kernel)) (by decide +kernel)
theorem in_41 : Cond.instanceMethod (xnm 41) ∈ xWds := xW1 (List.mem_of_getElem? (i := 412) (by decide +kernel)) (by decide +kernel)
theorem sel_41 : Cond.selects (xnm 41).cls (xnm 41) (xnm 41) ∈ xWds := xW1 (List.mem_of_getElem? (i := 413) (by decide +kernel)) (by decide +kernel)
theorem nm_41 : (xnm 41).cls ≠ "java/lang/invoke/MethodHandle" ∧ (xnm 41).cls ≠ "java/lang/invoke/VarHandle" ∧ (parseMethodDescriptor (xnm 41).desc).map (fun d => d.parameters.length) = some 0 := by decide +kernel
theorem ns_41 : (xnm 41).name ≠ "<init>" ∧ (parseMethodDescriptor (xnm 41).desc).map (fun d => d.parameters.length) = some 0 := by decide +kernel
theorem cw_42 : xcw 42 = Cond.code (xnm 42) cX9_stripAt 2 (some (.object "Stuccohand$Strip")) := rfl
theorem cm_42 : xcw 42 ∈ xWds := xW1 (List.mem_of_getElem? (i := 408) (by decide +kernel)) (by decide +kernel)
theorem ini_42 : Cond.initialized (xnm 42).cls ∈ xWds := xW1 (List.mem_of_getElem? (i := 13) (by decide +kernel)) (by decide +kernel)
theorem in_42 : Cond.instanceMethod (xnm 42) ∈ xWds := xW1 (List.mem_of_getElem? (i := 406) (by decide +kernel)) (by decide +kernel)
theorem sel_42 : Cond.selects (xnm 42).cls (xnm 42) (xnm 42) ∈ xWds := xW1 (List.mem_of_getElem? (i := 407) (by decide +kernel)) (by decide +kernel)
theorem nm_42 : (xnm 42).cls ≠ "java/lang/invoke/MethodHandle" ∧ (xnm 42).cls ≠ "java/lang/invoke/VarHandle" ∧ (parseMethodDescriptor (xnm 42).desc).map (fun d => d.parameters.length) = some 1 := by decide +kernel
theorem ns_42 : (xnm 42).name ≠ "<init>" ∧ (parseMethodDescriptor (xnm 42).desc).map (fun d => d.parameters.length) = some 1 := by decide +kernel
theorem cw_43 : xcw 43 = Cond.code (xnm 43) cX9_takes 6 (some .boolean) := rfl
theorem cm_43 : xcw 43 ∈ xWds := xW1 (List.mem_of_getElem? (i := 440) (by decide +kernel)) (by decide +kernel)
theorem ini_43 : Cond.initialized (xnm 43).cls ∈ xWds := xW1 (List.mem_of_getElem? (i := 13) (by decide +kernel)) (by decide +kernel)
theorem in_43 : Cond.instanceMethod (xnm 43) ∈ xWds := xW1 (List.mem_of_getElem? (i := 438) (by decide +kernel)) (by decide +kernel)
theorem sel_43 : Cond.selects (xnm 43).cls (xnm 43) (xnm 43) ∈ xWds := xW1 (List.mem_of_getElem? (i := 439) (by decide +kernel)) (by decide +kernel)
theorem nm_43 : (xnm 43).cls ≠ "java/lang/invoke/MethodHandle" ∧ (xnm 43).cls ≠ "java/lang/invoke/VarHandle" ∧ (parseMethodDescriptor (xnm 43).desc).map (fun d => d.parameters.length) = some 3 := by decide +kernel
theorem ns_43 : (xnm 43).name ≠ "<init>" ∧ (parseMethodDescriptor (xnm 43).desc).map (fun d => d.parameters.length) = some 3 := by decide +kernel
theorem cw_44 : xcw 44 = Cond.code (xnm 44) cX9_hasUnplannedEdge 5 (some .boolean) := rfl
theorem cm_44 : xcw 44 ∈ xWds := xW1 (List.mem_of_getElem? (i := 543) (by decide +kernel)) (by decide +kernel)
theorem ini_44 : Cond.initialized (xnm 44).cls ∈ xWds := xW1 (List.mem_of_getElem? (i := 13) (by decide +kernel)) (by decide +kernel)
theorem in_44 : Cond.instanceMethod (xnm 44) ∈ xWds := xW1 (List.mem_of_getElem? (i := 542) (by decide +kernel)) (by decide +kernel)
theorem sel_44 : Cond.selects (xnm 44).cls (xnm 44) (xnm 44) ∈ xWds := xWds_in (List.mem_append_left _ (List.mem_of_getElem? (i := 6) (by decide +kernel))) (by decide +kernel)
theorem nm_44 : (xnm 44).cls ≠ "java/lang/invoke/MethodHandle" ∧ (xnm 44).cls ≠ "java/lang/invoke/VarHandle" ∧ (parseMethodDescriptor (xnm 44).desc).map (fun d => d.parameters.length) = some 1 := by decide +kernel
theorem ns_44 : (xnm 44).name ≠ "<init>" ∧ (parseMethodDescriptor (xnm 44).desc).map (fun d => d.parameters.length) = some 1 := by decide +kernel
theorem cw_45 : xcw 45 = Cond.code (xnm 45) cX9_layCoat 10 (some .int) := rfl
theorem cm_45 : xcw 45 ∈ xWds := xW1 (List.mem_of_getElem? (i := 490) (by decide +kernel)) (by decide +kernel)
theorem ini_45 : Cond.initialized (xnm 45).cls ∈ xWds := xW1 (List.mem_of_getElem? (i := 13) (by decide +kernel)) (by decide +kernel)
theorem in_45 : Cond.instanceMethod (xnm 45) ∈ xWds := xW1 (List.mem_of_getElem? (i := 488) (by decide +kernel)) (by decide +kernel)
theorem sel_45 : Cond.selects (xnm 45).cls (xnm 45) (xnm 45) ∈ xWds := xW1 (List.mem_of_getElem? (i := 489) (by decide +kernel)) (by decide +kernel)
theorem nm_45 : (xnm 45).cls ≠ "java/lang/invoke/MethodHandle" ∧ (xnm 45).cls ≠ "java/lang/invoke/VarHandle" ∧ (parseMethodDescriptor (xnm 45).desc).map (fun d => d.parameters.length) = some 5 := by decide +kernel
theorem ns_45 : (xnm 45).name ≠ "<init>" ∧ (parseMethodDescriptor (xnm 45).desc).map (fun d => d.parameters.length) = some 5 := by decide +kernel
theorem cw_46 : xcw 46 = Cond.code (xnm 46) cX9_isCoatedOn 7 (some .boolean) := rfl
theorem cm_46 : xcw 46 ∈ xWds := xW1 (List.mem_of_getElem? (i := 562) (by decide +kernel)) (by decide +kernel)
theorem ini_46 : Cond.initialized (xnm 46).cls ∈ xWds := xW1 (List.mem_of_getElem? (i := 13) (by decide +kernel)) (by decide +kernel)
theorem in_46 : Cond.instanceMethod (xnm 46) ∈ xWds := xW1 (List.mem_of_getElem? (i := 560) (by decide +kernel)) (by decide +kernel)
theorem sel_46 : Cond.selects (xnm 46).cls (xnm 46) (xnm 46) ∈ xWds := xW1 (List.mem_of_getElem? (i := 561) (by decide +kernel)) (by decide +kernel)
theorem nm_46 : (xnm 46).cls ≠ "java/lang/invoke/MethodHandle" ∧ (xnm 46).cls ≠ "java/lang/invoke/VarHandle" ∧ (parseMethodDescriptor (xnm 46).desc).map (fun d => d.parameters.length) = some 3 := by decide +kernel
theorem ns_46 : (xnm 46).name ≠ "<init>" ∧ (parseMethodDescriptor (xnm 46).desc).map (fun d => d.parameters.length) = some 3 := by decide +kernel
theorem cw_47 : xcw 47 = Cond.code (xnm 47) cX9_scratchTops 7 (some .int) := rfl
theorem cm_47 : xcw 47 ∈ xWds := xW1 (List.mem_of_getElem? (i := 567) (by decide +kernel)) (by decide +kernel)
theorem ini_47 : Cond.initialized (xnm 47).cls ∈ xWds := xW1 (List.mem_of_getElem? (i := 13) (by decide +kernel)) (by decide +kernel)
theorem in_47 : Cond.instanceMethod (xnm 47) ∈ xWds := xW1 (List.mem_of_getElem? (i := 565) (by decide +kernel)) (by decide +kernel)
theorem sel_47 : Cond.selects (xnm 47).cls (xnm 47) (xnm 47) ∈ xWds := xW1 (List.mem_of_getElem? (i := 566) (by decide +kernel)) (by decide +kernel)
theorem nm_47 : (xnm 47).cls ≠ "java/lang/invoke/MethodHandle" ∧ (xnm 47).cls ≠ "java/lang/invoke/VarHandle" ∧ (parseMethodDescriptor (xnm 47).desc).map (fun d => d.parameters.length) = some 2 := by decide +kernel
theorem ns_47 : (xnm 47).name ≠ "<init>" ∧ (parseMethodDescriptor (xnm 47).desc).map (fun d => d.parameters.length) = some 2 := by decide +kernel
theorem cw_48 : xcw 48 = Cond.code (xnm 48) cX9_dryFor 8 (some .int) := rfl
theorem cm_48 : xcw 48 ∈ xWds := xW1 (List.mem_of_getElem? (i := 606) (by decide +kernel)) (by decide +kernel)
theorem ini_48 : Cond.initialized (xnm 48).cls ∈ xWds := xW1 (List.mem_of_getElem? (i := 13) (by decide +kernel)) (by decide +kernel)
theorem in_48 : Cond.instanceMethod (xnm 48) ∈ xWds := xW1 (List.mem_of_getElem? (i := 604) (by decide +kernel)) (by decide +kernel)
theorem sel_48 : Cond.selects (xnm 48).cls (xnm 48) (xnm 48) ∈ xWds := xW1 (List.mem_of_getElem? (i := 605) (by decide +kernel)) (by decide +kernel)
theorem nm_48 : (xnm 48).cls ≠ "java/lang/invoke/MethodHandle" ∧ (xnm 48).cls ≠ "java/lang/invoke/VarHandle" ∧ (parseMethodDescriptor (xnm 48).desc).map (fun d => d.parameters.length) = some 3 := by decide +kernel
theorem ns_48 : (xnm 48).name ≠ "<init>" ∧ (parseMethodDescriptor (xnm 48).desc).map (fun d => d.parameters.length) = some 3 := by decide +kernel
theorem cw_49 : xcw 49 = Cond.code (xnm 49) cX9_countPaid 4 (some .int) := rfl
theorem cm_49 : xcw 49 ∈ xWds := xW1 (List.mem_of_getElem? (i := 1099) (by decide +kernel)) (by decide +kernel)
theorem ini_49 : Cond.initialized (xnm 49).cls ∈ xWds := xW1 (List.mem_of_getElem? (i := 13) (by decide +kernel)) (by decide +kernel)
theorem in_49 : Cond.instanceMethod (xnm 49) ∈ xWds := xW1 (List.mem_of_getElem? (i := 1097) (by decide +kernel)) (by decide +kernel)
theorem sel_49 : Cond.selects (xnm 49).cls (xnm 49) (xnm 49) ∈ xWds := xW1 (List.mem_of_getElem? (i := 1098) (by decide +kernel)) (by decide +kernel)
theorem nm_49 : (xnm 49).cls ≠ "java/lang/invoke/MethodHandle" ∧ (xnm 49).cls ≠ "java/lang/invoke/VarHandle" ∧ (parseMethodDescriptor (xnm 49).desc).map (fun d => d.parameters.length) = some 1 := by decide +kernel
theorem ns_49 : (xnm 49).name ≠ "<init>" ∧ (parseMethodDescriptor (xnm 49).desc).map (fun d => d.parameters.length) = some 1 := by decide +kernel
theorem cw_51 : xcw 51 = Cond.code (xnm 51) cX10_wall 3 (some .int) := rfl
theorem cm_51 : xcw 51 ∈ xWds := xW1 (List.mem_of_getElem? (i := 154) (by decide +kernel)) (by decide +kernel)
theorem ini_51 : Cond.initialized (xnm 51).cls ∈ xWds := xW1 (List.mem_of_getElem? (i := 1) (by decide +kernel)) (by decide +kernel)
theorem in_51 : Cond.instanceMethod (xnm 51) ∈ xWds := xW1 (List.mem_of_getElem? (i := 152) (by decide +kernel)) (by decide +kernel)
theorem sel_51 : Cond.selects (xnm 51).cls (xnm 51) (xnm 51) ∈ xWds := xW1 (List.mem_of_getElem? (i := 153) (by decide +kernel)) (by decide +kernel)
theorem nm_51 : (xnm 51).cls ≠ "java/lang/invoke/MethodHandle" ∧ (xnm 51).cls ≠ "java/lang/invoke/VarHandle" ∧ (parseMethodDescriptor (xnm 51).desc).map (fun d => d.parameters.length) = some 2 := by decide +kernel
theorem ns_51 : (xnm 51).name ≠ "<init>" ∧ (parseMethodDescriptor (xnm 51).desc).map (fun d => d.parameters.length) = some 2 := by decide +kernel
theorem cw_52 : xcw 52 = Cond.code (xnm 52) cX10_weather 3 none := rfl
theorem cm_52 : xcw 52 ∈ xWds := xW1 (List.mem_of_getElem? (i := 352) (by decide +kernel)) (by decide +kernel)
theorem ini_52 : Cond.initialized (xnm 52).cls ∈ xWds := xW1 (List.mem_of_getElem? (i := 1) (by decide +kernel)) (by decide +kernel)
theorem in_52 : Cond.instanceMethod (xnm 52) ∈ xWds := xW1 (List.mem_of_getElem? (i := 350) (by decide +kernel)) (by decide +kernel)
theorem sel_52 : Cond.selects (xnm 52).cls (xnm 52) (xnm 52) ∈ xWds := xW1 (List.mem_of_getElem? (i := 351) (by decide +kernel)) (by decide +kernel)
theorem nm_52 : (xnm 52).cls ≠ "java/lang/invoke/MethodHandle" ∧ (xnm 52).cls ≠ "java/lang/invoke/VarHandle" ∧ (parseMethodDescriptor (xnm 52).desc).map (fun d => d.parameters.length) = some 2 := by decide +kernel
theorem ns_52 : (xnm 52).name ≠ "<init>" ∧ (parseMethodDescriptor (xnm 52).desc).map (fun d => d.parameters.length) = some 2 := by decide +kernel
theorem cw_53 : xcw 53 = Cond.code (xnm 53) cX10_wallNumbered 2 (some (.object "Stuccohand$Wall")) := rfl
theorem cm_53 : xcw 53 ∈ xWds := xW1 (List.mem_of_getElem? (i := 366) (by decide +kernel)) (by decide +kernel)
theorem ini_53 : Cond.initialized (xnm 53).cls ∈ xWds := xW1 (List.mem_of_getElem? (i := 1) (by decide +kernel)) (by decide +kernel)
theorem in_53 : Cond.instanceMethod (xnm 53) ∈ xWds := xW1 (List.mem_of_getElem? (i := 365) (by decide +kernel)) (by decide +kernel)
theorem sel_53 : Cond.selects (xnm 53).cls (xnm 53) (xnm 53) ∈ xWds := xWds_in (List.mem_append_left _ (List.mem_of_getElem? (i := 4) (by decide +kernel))) (by decide +kernel)
theorem nm_53 : (xnm 53).cls ≠ "java/lang/invoke/MethodHandle" ∧ (xnm 53).cls ≠ "java/lang/invoke/VarHandle" ∧ (parseMethodDescriptor (xnm 53).desc).map (fun d => d.parameters.length) = some 1 := by decide +kernel
theorem ns_53 : (xnm 53).name ≠ "<init>" ∧ (parseMethodDescriptor (xnm 53).desc).map (fun d => d.parameters.length) = some 1 := by decide +kernel
theorem cw_54 : xcw 54 = Cond.code (xnm 54) cX10_damp 5 (some .int) := rfl
theorem cm_54 : xcw 54 ∈ xWds := xW1 (List.mem_of_getElem? (i := 362) (by decide +kernel)) (by decide +kernel)
theorem ini_54 : Cond.initialized (xnm 54).cls ∈ xWds := xW1 (List.mem_of_getElem? (i := 1) (by decide +kernel)) (by decide +kernel)
theorem in_54 : Cond.instanceMethod (xnm 54) ∈ xWds := xW1 (List.mem_of_getElem? (i := 360) (by decide +kernel)) (by decide +kernel)
theorem sel_54 : Cond.selects (xnm 54).cls (xnm 54) (xnm 54) ∈ xWds := xW1 (List.mem_of_getElem? (i := 361) (by decide +kernel)) (by decide +kernel)
theorem nm_54 : (xnm 54).cls ≠ "java/lang/invoke/MethodHandle" ∧ (xnm 54).cls ≠ "java/lang/invoke/VarHandle" ∧ (parseMethodDescriptor (xnm 54).desc).map (fun d => d.parameters.length) = some 2 := by decide +kernel
theorem ns_54 : (xnm 54).name ≠ "<init>" ∧ (parseMethodDescriptor (xnm 54).desc).map (fun d => d.parameters.length) = some 2 := by decide +kernel
theorem cw_55 : xcw 55 = Cond.code (xnm 55) cX10_joint 6 (some .boolean) := rfl
theorem cm_55 : xcw 55 ∈ xWds := xW1 (List.mem_of_getElem? (i := 404) (by decide +kernel)) (by decide +kernel)
theorem ini_55 : Cond.initialized (xnm 55).cls ∈ xWds := xW1 (List.mem_of_getElem? (i := 1) (by decide +kernel)) (by decide +kernel)
theorem in_55 : Cond.instanceMethod (xnm 55) ∈ xWds := xW1 (List.mem_of_getElem? (i := 402) (by decide +kernel)) (by decide +kernel)
theorem sel_55 : Cond.selects (xnm 55).cls (xnm 55) (xnm 55) ∈ xWds := xW1 (List.mem_of_getElem? (i := 403) (by decide +kernel)) (by decide +kernel)
theorem nm_55 : (xnm 55).cls ≠ "java/lang/invoke/MethodHandle" ∧ (xnm 55).cls ≠ "java/lang/invoke/VarHandle" ∧ (parseMethodDescriptor (xnm 55).desc).map (fun d => d.parameters.length) = some 2 := by decide +kernel
theorem ns_55 : (xnm 55).name ≠ "<init>" ∧ (parseMethodDescriptor (xnm 55).desc).map (fun d => d.parameters.length) = some 2 := by decide +kernel
theorem cw_56 : xcw 56 = Cond.code (xnm 56) cX10_testStrips 3 none := rfl
theorem cm_56 : xcw 56 ∈ xWds := xW1 (List.mem_of_getElem? (i := 425) (by decide +kernel)) (by decide +kernel)
theorem ini_56 : Cond.initialized (xnm 56).cls ∈ xWds := xW1 (List.mem_of_getElem? (i := 1) (by decide +kernel)) (by decide +kernel)
theorem st_56 : Cond.static (xnm 56) ∈ xWds := xW1 (List.mem_of_getElem? (i := 424) (by decide +kernel)) (by decide +kernel)
theorem nm_56 : (xnm 56).cls ≠ "java/lang/invoke/MethodHandle" ∧ (xnm 56).cls ≠ "java/lang/invoke/VarHandle" ∧ (parseMethodDescriptor (xnm 56).desc).map (fun d => d.parameters.length) = some 3 := by decide +kernel
theorem ns_56 : (xnm 56).name ≠ "<init>" ∧ (parseMethodDescriptor (xnm 56).desc).map (fun d => d.parameters.length) = some 3 := by decide +kernel
theorem cw_57 : xcw 57 = Cond.code (xnm 57) cX10_coat 8 (some .int) := rfl
theorem cm_57 : xcw 57 ∈ xWds := xW1 (List.mem_of_getElem? (i := 422) (by decide +kernel)) (by decide +kernel)
theorem ini_57 : Cond.initialized (xnm 57).cls ∈ xWds := xW1 (List.mem_of_getElem? (i := 1) (by decide +kernel)) (by decide +kernel)
theorem in_57 : Cond.instanceMethod (xnm 57) ∈ xWds := xW1 (List.mem_of_getElem? (i := 420) (by decide +kernel)) (by decide +kernel)
theorem sel_57 : Cond.selects (xnm 57).cls (xnm 57) (xnm 57) ∈ xWds := xW1 (List.mem_of_getElem? (i := 421) (by decide +kernel)) (by decide +kernel)
theorem nm_57 : (xnm 57).cls ≠ "java/lang/invoke/MethodHandle" ∧ (xnm 57).cls ≠ "java/lang/invoke/VarHandle" ∧ (parseMethodDescriptor (xnm 57).desc).map (fun d => d.parameters.length) = some 5 := by decide +kernel
theorem ns_57 : (xnm 57).name ≠ "<init>" ∧ (parseMethodDescriptor (xnm 57).desc).map (fun d => d.parameters.length) = some 5 := by decide +kernel
theorem cw_58 : xcw 58 = Cond.code (xnm 58) cX10_scratch 5 (some .int) := rfl
theorem cm_58 : xcw 58 ∈ xWds := xW1 (List.mem_of_getElem? (i := 558) (by decide +kernel)) (by decide +kernel)
theorem ini_58 : Cond.initialized (xnm 58).cls ∈ xWds := xW1 (List.mem_of_getElem? (i := 1) (by decide +kernel)) (by decide +kernel)
theorem in_58 : Cond.instanceMethod (xnm 58) ∈ xWds := xW1 (List.mem_of_getElem? (i := 556) (by decide +kernel)) (by decide +kernel)
theorem sel_58 : Cond.selects (xnm 58).cls (xnm 58) (xnm 58) ∈ xWds := xW1 (List.mem_of_getElem? (i := 557) (by decide +kernel)) (by decide +kernel)
theorem nm_58 : (xnm 58).cls ≠ "java/lang/invoke/MethodHandle" ∧ (xnm 58).cls ≠ "java/lang/invoke/VarHandle" ∧ (parseMethodDescriptor (xnm 58).desc).map (fun d => d.parameters.length) = some 3 := by decide +kernel
theorem ns_58 : (xnm 58).name ≠ "<init>" ∧ (parseMethodDescriptor (xnm 58).desc).map (fun d => d.parameters.length) = some 3 := by decide +kernel
theorem cw_59 : xcw 59 = Cond.code (xnm 59) cX10_stripNumbered 4 (some (.object "Stuccohand$Strip")) := rfl
theorem cm_59 : xcw 59 ∈ xWds := xW1 (List.mem_of_getElem? (i := 578) (by decide +kernel)) (by decide +kernel)
theorem ini_59 : Cond.initialized (xnm 59).cls ∈ xWds := xW1 (List.mem_of_getElem? (i := 1) (by decide +kernel)) (by decide +kernel)
theorem in_59 : Cond.instanceMethod (xnm 59) ∈ xWds := xW1 (List.mem_of_getElem? (i := 577) (by decide +kernel)) (by decide +kernel)
theorem sel_59 : Cond.selects (xnm 59).cls (xnm 59) (xnm 59) ∈ xWds := xWds_in (List.mem_append_left _ (List.mem_of_getElem? (i := 7) (by decide +kernel))) (by decide +kernel)
theorem nm_59 : (xnm 59).cls ≠ "java/lang/invoke/MethodHandle" ∧ (xnm 59).cls ≠ "java/lang/invoke/VarHandle" ∧ (parseMethodDescriptor (xnm 59).desc).map (fun d => d.parameters.length) = some 2 := by decide +kernel
theorem ns_59 : (xnm 59).name ≠ "<init>" ∧ (parseMethodDescriptor (xnm 59).desc).map (fun d => d.parameters.length) = some 2 := by decide +kernel
theorem cw_60 : xcw 60 = Cond.code (xnm 60) cX10_strike 4 (some .int) := rfl
theorem cm_60 : xcw 60 ∈ xWds := xW1 (List.mem_of_getElem? (i := 574) (by decide +kernel)) (by decide +kernel)
theorem ini_60 : Cond.initialized (xnm 60).cls ∈ xWds := xW1 (List.mem_of_getElem? (i := 1) (by decide +kernel)) (by decide +kernel)
theorem in_60 : Cond.instanceMethod (xnm 60) ∈ xWds := xW1 (List.mem_of_getElem? (i := 572) (by decide +kernel)) (by decide +kernel)
theorem sel_60 : Cond.selects (xnm 60).cls (xnm 60) (xnm 60) ∈ xWds := xW1 (List.mem_of_getElem? (i := 573) (by decide +kernel)) (by decide +kernel)
theorem nm_60 : (xnm 60).cls ≠ "java/lang/invoke/MethodHandle" ∧ (xnm 60).cls ≠ "java/lang/invoke/VarHandle" ∧ (parseMethodDescriptor (xnm 60).desc).map (fun d => d.parameters.length) = some 2 := by decide +kernel
theorem ns_60 : (xnm 60).name ≠ "<init>" ∧ (parseMethodDescriptor (xnm 60).desc).map (fun d => d.parameters.length) = some 2 := by decide +kernel
theorem cw_61 : xcw 61 = Cond.code (xnm 61) cX10_pass 4 (some .int) := rfl
theorem cm_61 : xcw 61 ∈ xWds := xW1 (List.mem_of_getElem? (i := 600) (by decide +kernel)) (by decide +kernel)
theorem ini_61 : Cond.initialized (xnm 61).cls ∈ xWds := xW1 (List.mem_of_getElem? (i := 1) (by decide +kernel)) (by decide +kernel)
theorem in_61 : Cond.instanceMethod (xnm 61) ∈ xWds := xW1 (List.mem_of_getElem? (i := 598) (by decide +kernel)) (by decide +kernel)
theorem sel_61 : Cond.selects (xnm 61).cls (xnm 61) (xnm 61) ∈ xWds := xW1 (List.mem_of_getElem? (i := 599) (by decide +kernel)) (by decide +kernel)
theorem nm_61 : (xnm 61).cls ≠ "java/lang/invoke/MethodHandle" ∧ (xnm 61).cls ≠ "java/lang/invoke/VarHandle" ∧ (parseMethodDescriptor (xnm 61).desc).map (fun d => d.parameters.length) = some 1 := by decide +kernel
theorem ns_61 : (xnm 61).name ≠ "<init>" ∧ (parseMethodDescriptor (xnm 61).desc).map (fun d => d.parameters.length) = some 1 := by decide +kernel
theorem cw_62 : xcw 62 = Cond.code (xnm 62) cX10_coatNumbered 5 (some (.object "Stuccohand$Coat")) := rfl
theorem cm_62 : xcw 62 ∈ xWds := xW1 (List.mem_of_getElem? (i := 625) (by decide +kernel)) (by decide +kernel)
theorem ini_62 : Cond.initialized (xnm 62).cls ∈ xWds := xW1 (List.mem_of_getElem? (i := 1) (by decide +kernel)) (by decide +kernel)
theorem in_62 : Cond.instanceMethod (xnm 62) ∈ xWds := xW1 (List.mem_of_getElem? (i := 624) (by decide +kernel)) (by decide +kernel)
theorem sel_62 : Cond.selects (xnm 62).cls (xnm 62) (xnm 62) ∈ xWds := xWds_in (List.mem_append_left _ (List.mem_of_getElem? (i := 9) (by decide +kernel))) (by decide +kernel)
theorem nm_62 : (xnm 62).cls ≠ "java/lang/invoke/MethodHandle" ∧ (xnm 62).cls ≠ "java/lang/invoke/VarHandle" ∧ (parseMethodDescriptor (xnm 62).desc).map (fun d => d.parameters.length) = some 3 := by decide +kernel
theorem ns_62 : (xnm 62).name ≠ "<init>" ∧ (parseMethodDescriptor (xnm 62).desc).map (fun d => d.parameters.length) = some 3 := by decide +kernel
theorem cw_63 : xcw 63 = Cond.code (xnm 63) cX10_ofCoat 6 (some .int) := rfl
theorem cm_63 : xcw 63 ∈ xWds := xW1 (List.mem_of_getElem? (i := 621) (by decide +kernel)) (by decide +kernel)
theorem ini_63 : Cond.initialized (xnm 63).cls ∈ xWds := xW1 (List.mem_of_getElem? (i := 1) (by decide +kernel)) (by decide +kernel)
theorem in_63 : Cond.instanceMethod (xnm 63) ∈ xWds := xW1 (List.mem_of_getElem? (i := 619) (by decide +kernel)) (by decide +kernel)
theorem sel_63 : Cond.selects (xnm 63).cls (xnm 63) (xnm 63) ∈ xWds := xW1 (List.mem_of_getElem? (i := 620) (by decide +kernel)) (by decide +kernel)
theorem nm_63 : (xnm 63).cls ≠ "java/lang/invoke/MethodHandle" ∧ (xnm 63).cls ≠ "java/lang/invoke/VarHandle" ∧ (parseMethodDescriptor (xnm 63).desc).map (fun d => d.parameters.length) = some 4 := by decide +kernel
theorem ns_63 : (xnm 63).name ≠ "<init>" ∧ (parseMethodDescriptor (xnm 63).desc).map (fun d => d.parameters.length) = some 4 := by decide +kernel
theorem cw_64 : xcw 64 = Cond.code (xnm 64) cX10_coatsAnew 3 (some .int) := rfl
theorem cm_64 : xcw 64 ∈ xWds := xW1 (List.mem_of_getElem? (i := 636) (by decide +kernel)) (by decide +kernel)
theorem ini_64 : Cond.initialized (xnm 64).cls ∈ xWds := xW1 (List.mem_of_getElem? (i := 1) (by decide +kernel)) (by decide +kernel)
theorem in_64 : Cond.instanceMethod (xnm 64) ∈ xWds := xW1 (List.mem_of_getElem? (i := 634) (by decide +kernel)) (by decide +kernel)
theorem sel_64 : Cond.selects (xnm 64).cls (xnm 64) (xnm 64) ∈ xWds := xW1 (List.mem_of_getElem? (i := 635) (by decide +kernel)) (by decide +kernel)
theorem nm_64 : (xnm 64).cls ≠ "java/lang/invoke/MethodHandle" ∧ (xnm 64).cls ≠ "java/lang/invoke/VarHandle" ∧ (parseMethodDescriptor (xnm 64).desc).map (fun d => d.parameters.length) = some 2 := by decide +kernel
theorem ns_64 : (xnm 64).name ≠ "<init>" ∧ (parseMethodDescriptor (xnm 64).desc).map (fun d => d.parameters.length) = some 2 := by decide +kernel
theorem cw_65 : xcw 65 = Cond.code (xnm 65) cX10_text 7 (some .char) := rfl
theorem cm_65 : xcw 65 ∈ xWds := xW1 (List.mem_of_getElem? (i := 652) (by decide +kernel)) (by decide +kernel)
theorem ini_65 : Cond.initialized (xnm 65).cls ∈ xWds := xW1 (List.mem_of_getElem? (i := 1) (by decide +kernel)) (by decide +kernel)
theorem in_65 : Cond.instanceMethod (xnm 65) ∈ xWds := xW1 (List.mem_of_getElem? (i := 650) (by decide +kernel)) (by decide +kernel)
theorem sel_65 : Cond.selects (xnm 65).cls (xnm 65) (xnm 65) ∈ xWds := xW1 (List.mem_of_getElem? (i := 651) (by decide +kernel)) (by decide +kernel)
theorem nm_65 : (xnm 65).cls ≠ "java/lang/invoke/MethodHandle" ∧ (xnm 65).cls ≠ "java/lang/invoke/VarHandle" ∧ (parseMethodDescriptor (xnm 65).desc).map (fun d => d.parameters.length) = some 4 := by decide +kernel
theorem ns_65 : (xnm 65).name ≠ "<init>" ∧ (parseMethodDescriptor (xnm 65).desc).map (fun d => d.parameters.length) = some 4 := by decide +kernel
theorem cw_66 : xcw 66 = Cond.code (xnm 66) cX10_testDepth 1 none := rfl
theorem cm_66 : xcw 66 ∈ xWds := xW1 (List.mem_of_getElem? (i := 869) (by decide +kernel)) (by decide +kernel)
theorem ini_66 : Cond.initialized (xnm 66).cls ∈ xWds := xW1 (List.mem_of_getElem? (i := 1) (by decide +kernel)) (by decide +kernel)
theorem st_66 : Cond.static (xnm 66) ∈ xWds := xW1 (List.mem_of_getElem? (i := 868) (by decide +kernel)) (by decide +kernel)
theorem nm_66 : (xnm 66).cls ≠ "java/lang/invoke/MethodHandle" ∧ (xnm 66).cls ≠ "java/lang/invoke/VarHandle" ∧ (parseMethodDescriptor (xnm 66).desc).map (fun d => d.parameters.length) = some 1 := by decide +kernel
theorem ns_66 : (xnm 66).name ≠ "<init>" ∧ (parseMethodDescriptor (xnm 66).desc).map (fun d => d.parameters.length) = some 1 := by decide +kernel
theorem cw_67 : xcw 67 = Cond.code (xnm 67) cX10_profile 2 (some .int) := rfl
theorem cm_67 : xcw 67 ∈ xWds := xW1 (List.mem_of_getElem? (i := 866) (by decide +kernel)) (by decide +kernel)
theorem ini_67 : Cond.initialized (xnm 67).cls ∈ xWds := xW1 (List.mem_of_getElem? (i := 1) (by decide +kernel)) (by decide +kernel)
theorem in_67 : Cond.instanceMethod (xnm 67) ∈ xWds := xW1 (List.mem_of_getElem? (i := 864) (by decide +kernel)) (by decide +kernel)
theorem sel_67 : Cond.selects (xnm 67).cls (xnm 67) (xnm 67) ∈ xWds := xW1 (List.mem_of_getElem? (i := 865) (by decide +kernel)) (by decide +kernel)
theorem nm_67 : (xnm 67).cls ≠ "java/lang/invoke/MethodHandle" ∧ (xnm 67).cls ≠ "java/lang/invoke/VarHandle" ∧ (parseMethodDescriptor (xnm 67).desc).map (fun d => d.parameters.length) = some 1 := by decide +kernel
theorem ns_67 : (xnm 67).name ≠ "<init>" ∧ (parseMethodDescriptor (xnm 67).desc).map (fun d => d.parameters.length) = some 1 := by decide +kernel
theorem cw_68 : xcw 68 = Cond.code (xnm 68) cX10_profileNumbered 2 (some (.object "Stuccohand$Profile")) := rfl
theorem cm_68 : xcw 68 ∈ xWds := xW1 (List.mem_of_getElem? (i := 895) (by decide +kernel)) (by decide +kernel)
theorem ini_68 : Cond.initialized (xnm 68).cls ∈ xWds := xW1 (List.mem_of_getElem? (i := 1) (by decide +kernel)) (by decide +kernel)
theorem in_68 : Cond.instanceMethod (xnm 68) ∈ xWds := xW1 (List.mem_of_getElem? (i := 894) (by decide +kernel)) (by decide +kernel)
theorem sel_68 : Cond.selects (xnm 68).cls (xnm 68) (xnm 68) ∈ xWds := xWds_in (List.mem_append_left _ (List.mem_of_getElem? (i := 10) (by decide +kernel))) (by decide +kernel)
theorem nm_68 : (xnm 68).cls ≠ "java/lang/invoke/MethodHandle" ∧ (xnm 68).cls ≠ "java/lang/invoke/VarHandle" ∧ (parseMethodDescriptor (xnm 68).desc).map (fun d => d.parameters.length) = some 1 := by decide +kernel
theorem ns_68 : (xnm 68).name ≠ "<init>" ∧ (parseMethodDescriptor (xnm 68).desc).map (fun d => d.parameters.length) = some 1 := by decide +kernel
theorem cw_69 : xcw 69 = Cond.code (xnm 69) cX10_depth 4 (some .int) := rfl
theorem cm_69 : xcw 69 ∈ xWds := xW1 (List.mem_of_getElem? (i := 891) (by decide +kernel)) (by decide +kernel)
theorem ini_69 : Cond.initialized (xnm 69).cls ∈ xWds := xW1 (List.mem_of_getElem? (i := 1) (by decide +kernel)) (by decide +kernel)
theorem in_69 : Cond.instanceMethod (xnm 69) ∈ xWds := xW1 (List.mem_of_getElem? (i := 889) (by decide +kernel)) (by decide +kernel)
theorem sel_69 : Cond.selects (xnm 69).cls (xnm 69) (xnm 69) ∈ xWds := xW1 (List.mem_of_getElem? (i := 890) (by decide +kernel)) (by decide +kernel)
theorem nm_69 : (xnm 69).cls ≠ "java/lang/invoke/MethodHandle" ∧ (xnm 69).cls ≠ "java/lang/invoke/VarHandle" ∧ (parseMethodDescriptor (xnm 69).desc).map (fun d => d.parameters.length) = some 2 := by decide +kernel
theorem ns_69 : (xnm 69).name ≠ "<init>" ∧ (parseMethodDescriptor (xnm 69).desc).map (fun d => d.parameters.length) = some 2 := by decide +kernel
theorem cw_70 : xcw 70 = Cond.code (xnm 70) cX10_shareOf 3 (some .float) := rfl
theorem cm_70 : xcw 70 ∈ xWds := xW1 (List.mem_of_getElem? (i := 927) (by decide +kernel)) (by decide +kernel)
theorem ini_70 : Cond.initialized (xnm 70).cls ∈ xWds := xW1 (List.mem_of_getElem? (i := 1) (by decide +kernel)) (by decide +kernel)
theorem st_70 : Cond.static (xnm 70) ∈ xWds := xW1 (List.mem_of_getElem? (i := 926) (by decide +kernel)) (by decide +kernel)
theorem nm_70 : (xnm 70).cls ≠ "java/lang/invoke/MethodHandle" ∧ (xnm 70).cls ≠ "java/lang/invoke/VarHandle" ∧ (parseMethodDescriptor (xnm 70).desc).map (fun d => d.parameters.length) = some 2 := by decide +kernel
theorem ns_70 : (xnm 70).name ≠ "<init>" ∧ (parseMethodDescriptor (xnm 70).desc).map (fun d => d.parameters.length) = some 2 := by decide +kernel
theorem cw_71 : xcw 71 = Cond.code (xnm 71) cX10_mitre 11 (some .float) := rfl
theorem cm_71 : xcw 71 ∈ xWds := xW1 (List.mem_of_getElem? (i := 916) (by decide +kernel)) (by decide +kernel)
theorem ini_71 : Cond.initialized (xnm 71).cls ∈ xWds := xW1 (List.mem_of_getElem? (i := 1) (by decide +kernel)) (by decide +kernel)
theorem in_71 : Cond.instanceMethod (xnm 71) ∈ xWds := xW1 (List.mem_of_getElem? (i := 914) (by decide +kernel)) (by decide +kernel)
theorem sel_71 : Cond.selects (xnm 71).cls (xnm 71) (xnm 71) ∈ xWds := xW1 (List.mem_of_getElem? (i := 915) (by decide +kernel)) (by decide +kernel)
theorem nm_71 : (xnm 71).cls ≠ "java/lang/invoke/MethodHandle" ∧ (xnm 71).cls ≠ "java/lang/invoke/VarHandle" ∧ (parseMethodDescriptor (xnm 71).desc).map (fun d => d.parameters.length) = some 2 := by decide +kernel
theorem ns_71 : (xnm 71).name ≠ "<init>" ∧ (parseMethodDescriptor (xnm 71).desc).map (fun d => d.parameters.length) = some 2 := by decide +kernel
theorem cw_72 : xcw 72 = Cond.code (xnm 72) cX10_testRepeat 2 none := rfl
theorem cm_72 : xcw 72 ∈ xWds := xW1 (List.mem_of_getElem? (i := 937) (by decide +kernel)) (by decide +kernel)
theorem ini_72 : Cond.initialized (xnm 72).cls ∈ xWds := xW1 (List.mem_of_getElem? (i := 1) (by decide +kernel)) (by decide +kernel)
theorem st_72 : Cond.static (xnm 72) ∈ xWds := xW1 (List.mem_of_getElem? (i := 936) (by decide +kernel)) (by decide +kernel)
theorem nm_72 : (xnm 72).cls ≠ "java/lang/invoke/MethodHandle" ∧ (xnm 72).cls ≠ "java/lang/invoke/VarHandle" ∧ (parseMethodDescriptor (xnm 72).desc).map (fun d => d.parameters.length) = some 2 := by decide +kernel
theorem ns_72 : (xnm 72).name ≠ "<init>" ∧ (parseMethodDescriptor (xnm 72).desc).map (fun d => d.parameters.length) = some 2 := by decide +kernel
theorem cw_73 : xcw 73 = Cond.code (xnm 73) cX10_timesNearest 10 (some .int) := rfl
theorem cm_73 : xcw 73 ∈ xWds := xW1 (List.mem_of_getElem? (i := 943) (by decide +kernel)) (by decide +kernel)
theorem ini_73 : Cond.initialized (xnm 73).cls ∈ xWds := xW1 (List.mem_of_getElem? (i := 1) (by decide +kernel)) (by decide +kernel)
theorem st_73 : Cond.static (xnm 73) ∈ xWds := xW1 (List.mem_of_getElem? (i := 942) (by decide +kernel)) (by decide +kernel)
theorem nm_73 : (xnm 73).cls ≠ "java/lang/invoke/MethodHandle" ∧ (xnm 73).cls ≠ "java/lang/invoke/VarHandle" ∧ (parseMethodDescriptor (xnm 73).desc).map (fun d => d.parameters.length) = some 2 := by decide +kernel
theorem ns_73 : (xnm 73).name ≠ "<init>" ∧ (parseMethodDescriptor (xnm 73).desc).map (fun d => d.parameters.length) = some 2 := by decide +kernel
theorem cw_74 : xcw 74 = Cond.code (xnm 74) cX10_fits 3 (some .int) := rfl
theorem cm_74 : xcw 74 ∈ xWds := xW1 (List.mem_of_getElem? (i := 934) (by decide +kernel)) (by decide +kernel)
theorem ini_74 : Cond.initialized (xnm 74).cls ∈ xWds := xW1 (List.mem_of_getElem? (i := 1) (by decide +kernel)) (by decide +kernel)
theorem in_74 : Cond.instanceMethod (xnm 74) ∈ xWds := xW1 (List.mem_of_getElem? (i := 932) (by decide +kernel)) (by decide +kernel)
theorem sel_74 : Cond.selects (xnm 74).cls (xnm 74) (xnm 74) ∈ xWds := xW1 (List.mem_of_getElem? (i := 933) (by decide +kernel)) (by decide +kernel)
theorem nm_74 : (xnm 74).cls ≠ "java/lang/invoke/MethodHandle" ∧ (xnm 74).cls ≠ "java/lang/invoke/VarHandle" ∧ (parseMethodDescriptor (xnm 74).desc).map (fun d => d.parameters.length) = some 2 := by decide +kernel
theorem ns_74 : (xnm 74).name ≠ "<init>" ∧ (parseMethodDescriptor (xnm 74).desc).map (fun d => d.parameters.length) = some 2 := by decide +kernel
theorem cw_75 : xcw 75 = Cond.code (xnm 75) cX10_step 4 (some .float) := rfl
theorem cm_75 : xcw 75 ∈ xWds := xW1 (List.mem_of_getElem? (i := 950) (by decide +kernel)) (by decide +kernel)
theorem ini_75 : Cond.initialized (xnm 75).cls ∈ xWds := xW1 (List.mem_of_getElem? (i := 1) (by decide +kernel)) (by decide +kernel)
theorem in_75 : Cond.instanceMethod (xnm 75) ∈ xWds := xW1 (List.mem_of_getElem? (i := 948) (by decide +kernel)) (by decide +kernel)
theorem sel_75 : Cond.selects (xnm 75).cls (xnm 75) (xnm 75) ∈ xWds := xW1 (List.mem_of_getElem? (i := 949) (by decide +kernel)) (by decide +kernel)
theorem nm_75 : (xnm 75).cls ≠ "java/lang/invoke/MethodHandle" ∧ (xnm 75).cls ≠ "java/lang/invoke/VarHandle" ∧ (parseMethodDescriptor (xnm 75).desc).map (fun d => d.parameters.length) = some 2 := by decide +kernel
theorem ns_75 : (xnm 75).name ≠ "<init>" ∧ (parseMethodDescriptor (xnm 75).desc).map (fun d => d.parameters.length) = some 2 := by decide +kernel
theorem cw_76 : xcw 76 = Cond.code (xnm 76) cX10_cutInEnd 5 (some .int) := rfl
theorem cm_76 : xcw 76 ∈ xWds := xW1 (List.mem_of_getElem? (i := 962) (by decide +kernel)) (by decide +kernel)
theorem ini_76 : Cond.initialized (xnm 76).cls ∈ xWds := xW1 (List.mem_of_getElem? (i := 1) (by decide +kernel)) (by decide +kernel)
theorem st_76 : Cond.static (xnm 76) ∈ xWds := xW1 (List.mem_of_getElem? (i := 961) (by decide +kernel)) (by decide +kernel)
theorem nm_76 : (xnm 76).cls ≠ "java/lang/invoke/MethodHandle" ∧ (xnm 76).cls ≠ "java/lang/invoke/VarHandle" ∧ (parseMethodDescriptor (xnm 76).desc).map (fun d => d.parameters.length) = some 3 := by decide +kernel
theorem ns_76 : (xnm 76).name ≠ "<init>" ∧ (parseMethodDescriptor (xnm 76).desc).map (fun d => d.parameters.length) = some 3 := by decide +kernel
theorem cw_77 : xcw 77 = Cond.code (xnm 77) cX10_cut 6 (some .int) := rfl
theorem cm_77 : xcw 77 ∈ xWds := xW1 (List.mem_of_getElem? (i := 957) (by decide +kernel)) (by decide +kernel)
theorem ini_77 : Cond.initialized (xnm 77).cls ∈ xWds := xW1 (List.mem_of_getElem? (i := 1) (by decide +kernel)) (by decide +kernel)
theorem in_77 : Cond.instanceMethod (xnm 77) ∈ xWds := xW1 (List.mem_of_getElem? (i := 955) (by decide +kernel)) (by decide +kernel)
theorem sel_77 : Cond.selects (xnm 77).cls (xnm 77) (xnm 77) ∈ xWds := xW1 (List.mem_of_getElem? (i := 956) (by decide +kernel)) (by decide +kernel)
theorem nm_77 : (xnm 77).cls ≠ "java/lang/invoke/MethodHandle" ∧ (xnm 77).cls ≠ "java/lang/invoke/VarHandle" ∧ (parseMethodDescriptor (xnm 77).desc).map (fun d => d.parameters.length) = some 3 := by decide +kernel
theorem ns_77 : (xnm 77).name ≠ "<init>" ∧ (parseMethodDescriptor (xnm 77).desc).map (fun d => d.parameters.length) = some 3 := by decide +kernel
theorem cw_78 : xcw 78 = Cond.code (xnm 78) cX10_testPigment 1 none := rfl
theorem cm_78 : xcw 78 ∈ xWds := xW1 (List.mem_of_getElem? (i := 972) (by decide +kernel)) (by decide +kernel)
theorem ini_78 : Cond.initialized (xnm 78).cls ∈ xWds := xW1 (List.mem_of_getElem? (i := 1) (by decide +kernel)) (by decide +kernel)
theorem st_78 : Cond.static (xnm 78) ∈ xWds := xW1 (List.mem_of_getElem? (i := 971) (by decide +kernel)) (by decide +kernel)
theorem nm_78 : (xnm 78).cls ≠ "java/lang/invoke/MethodHandle" ∧ (xnm 78).cls ≠ "java/lang/invoke/VarHandle" ∧ (parseMethodDescriptor (xnm 78).desc).map (fun d => d.parameters.length) = some 1 := by decide +kernel
theorem ns_78 : (xnm 78).name ≠ "<init>" ∧ (parseMethodDescriptor (xnm 78).desc).map (fun d => d.parameters.length) = some 1 := by decide +kernel
theorem cw_79 : xcw 79 = Cond.code (xnm 79) cX10_window 4 (some .int) := rfl
theorem cm_79 : xcw 79 ∈ xWds := xW1 (List.mem_of_getElem? (i := 969) (by decide +kernel)) (by decide +kernel)
theorem ini_79 : Cond.initialized (xnm 79).cls ∈ xWds := xW1 (List.mem_of_getElem? (i := 1) (by decide +kernel)) (by decide +kernel)
theorem in_79 : Cond.instanceMethod (xnm 79) ∈ xWds := xW1 (List.mem_of_getElem? (i := 967) (by decide +kernel)) (by decide +kernel)
theorem sel_79 : Cond.selects (xnm 79).cls (xnm 79) (xnm 79) ∈ xWds := xW1 (List.mem_of_getElem? (i := 968) (by decide +kernel)) (by decide +kernel)
theorem nm_79 : (xnm 79).cls ≠ "java/lang/invoke/MethodHandle" ∧ (xnm 79).cls ≠ "java/lang/invoke/VarHandle" ∧ (parseMethodDescriptor (xnm 79).desc).map (fun d => d.parameters.length) = some 2 := by decide +kernel
theorem ns_79 : (xnm 79).name ≠ "<init>" ∧ (parseMethodDescriptor (xnm 79).desc).map (fun d => d.parameters.length) = some 2 := by decide +kernel
theorem cw_80 : xcw 80 = Cond.code (xnm 80) cX10_patch 3 (some .int) := rfl
theorem cm_80 : xcw 80 ∈ xWds := xW1 (List.mem_of_getElem? (i := 988) (by decide +kernel)) (by decide +kernel)
theorem ini_80 : Cond.initialized (xnm 80).cls ∈ xWds := xW1 (List.mem_of_getElem? (i := 1) (by decide +kernel)) (by decide +kernel)
theorem in_80 : Cond.instanceMethod (xnm 80) ∈ xWds := xW1 (List.mem_of_getElem? (i := 986) (by decide +kernel)) (by decide +kernel)
theorem sel_80 : Cond.selects (xnm 80).cls (xnm 80) (xnm 80) ∈ xWds := xW1 (List.mem_of_getElem? (i := 987) (by decide +kernel)) (by decide +kernel)
theorem nm_80 : (xnm 80).cls ≠ "java/lang/invoke/MethodHandle" ∧ (xnm 80).cls ≠ "java/lang/invoke/VarHandle" ∧ (parseMethodDescriptor (xnm 80).desc).map (fun d => d.parameters.length) = some 1 := by decide +kernel
theorem ns_80 : (xnm 80).name ≠ "<init>" ∧ (parseMethodDescriptor (xnm 80).desc).map (fun d => d.parameters.length) = some 1 := by decide +kernel
theorem cw_81 : xcw 81 = Cond.code (xnm 81) cX10_patchNumbered 3 (some (.object "Stuccohand$Patch")) := rfl
theorem cm_81 : xcw 81 ∈ xWds := xW1 (List.mem_of_getElem? (i := 1036) (by decide +kernel)) (by decide +kernel)
theorem ini_81 : Cond.initialized (xnm 81).cls ∈ xWds := xW1 (List.mem_of_getElem? (i := 1) (by decide +kernel)) (by decide +kernel)
theorem in_81 : Cond.instanceMethod (xnm 81) ∈ xWds := xW1 (List.mem_of_getElem? (i := 1035) (by decide +kernel)) (by decide +kernel)
theorem sel_81 : Cond.selects (xnm 81).cls (xnm 81) (xnm 81) ∈ xWds := xWds_in (List.mem_append_left _ (List.mem_of_getElem? (i := 11) (by decide +kernel))) (by decide +kernel)
theorem nm_81 : (xnm 81).cls ≠ "java/lang/invoke/MethodHandle" ∧ (xnm 81).cls ≠ "java/lang/invoke/VarHandle" ∧ (parseMethodDescriptor (xnm 81).desc).map (fun d => d.parameters.length) = some 1 := by decide +kernel
theorem ns_81 : (xnm 81).name ≠ "<init>" ∧ (parseMethodDescriptor (xnm 81).desc).map (fun d => d.parameters.length) = some 1 := by decide +kernel
theorem cw_82 : xcw 82 = Cond.code (xnm 82) cX10_paint 10 (some .int) := rfl
theorem cm_82 : xcw 82 ∈ xWds := xW1 (List.mem_of_getElem? (i := 1032) (by decide +kernel)) (by decide +kernel)
theorem ini_82 : Cond.initialized (xnm 82).cls ∈ xWds := xW1 (List.mem_of_getElem? (i := 1) (by decide +kernel)) (by decide +kernel)
theorem in_82 : Cond.instanceMethod (xnm 82) ∈ xWds := xW1 (List.mem_of_getElem? (i := 1030) (by decide +kernel)) (by decide +kernel)
theorem sel_82 : Cond.selects (xnm 82).cls (xnm 82) (xnm 82) ∈ xWds := xW1 (List.mem_of_getElem? (i := 1031) (by decide +kernel)) (by decide +kernel)
theorem nm_82 : (xnm 82).cls ≠ "java/lang/invoke/MethodHandle" ∧ (xnm 82).cls ≠ "java/lang/invoke/VarHandle" ∧ (parseMethodDescriptor (xnm 82).desc).map (fun d => d.parameters.length) = some 4 := by decide +kernel
theorem ns_82 : (xnm 82).name ≠ "<init>" ∧ (parseMethodDescriptor (xnm 82).desc).map (fun d => d.parameters.length) = some 4 := by decide +kernel
theorem cw_83 : xcw 83 = Cond.code (xnm 83) cX10_ofCell 3 (some .int) := rfl
theorem cm_83 : xcw 83 ∈ xWds := xW1 (List.mem_of_getElem? (i := 1050) (by decide +kernel)) (by decide +kernel)
theorem ini_83 : Cond.initialized (xnm 83).cls ∈ xWds := xW1 (List.mem_of_getElem? (i := 1) (by decide +kernel)) (by decide +kernel)
theorem in_83 : Cond.instanceMethod (xnm 83) ∈ xWds := xW1 (List.mem_of_getElem? (i := 1048) (by decide +kernel)) (by decide +kernel)
theorem sel_83 : Cond.selects (xnm 83).cls (xnm 83) (xnm 83) ∈ xWds := xW1 (List.mem_of_getElem? (i := 1049) (by decide +kernel)) (by decide +kernel)
theorem nm_83 : (xnm 83).cls ≠ "java/lang/invoke/MethodHandle" ∧ (xnm 83).cls ≠ "java/lang/invoke/VarHandle" ∧ (parseMethodDescriptor (xnm 83).desc).map (fun d => d.parameters.length) = some 2 := by decide +kernel
theorem ns_83 : (xnm 83).name ≠ "<init>" ∧ (parseMethodDescriptor (xnm 83).desc).map (fun d => d.parameters.length) = some 2 := by decide +kernel
theorem cw_84 : xcw 84 = Cond.code (xnm 84) cX10_cellsBeside 10 (some .long) := rfl
theorem cm_84 : xcw 84 ∈ xWds := xW1 (List.mem_of_getElem? (i := 136) (by decide +kernel)) (by decide +kernel)
theorem ini_84 : Cond.initialized (xnm 84).cls ∈ xWds := xW1 (List.mem_of_getElem? (i := 1) (by decide +kernel)) (by decide +kernel)
theorem st_84 : Cond.static (xnm 84) ∈ xWds := xW1 (List.mem_of_getElem? (i := 135) (by decide +kernel)) (by decide +kernel)
theorem nm_84 : (xnm 84).cls ≠ "java/lang/invoke/MethodHandle" ∧ (xnm 84).cls ≠ "java/lang/invoke/VarHandle" ∧ (parseMethodDescriptor (xnm 84).desc).map (fun d => d.parameters.length) = some 1 := by decide +kernel
theorem ns_84 : (xnm 84).name ≠ "<init>" ∧ (parseMethodDescriptor (xnm 84).desc).map (fun d => d.parameters.length) = some 1 := by decide +kernel
theorem cw_85 : xcw 85 = Cond.code (xnm 85) cX10_over 3 (some .int) := rfl
theorem cm_85 : xcw 85 ∈ xWds := xW1 (List.mem_of_getElem? (i := 1070) (by decide +kernel)) (by decide +kernel)
theorem ini_85 : Cond.initialized (xnm 85).cls ∈ xWds := xW1 (List.mem_of_getElem? (i := 1) (by decide +kernel)) (by decide +kernel)
theorem in_85 : Cond.instanceMethod (xnm 85) ∈ xWds := xW1 (List.mem_of_getElem? (i := 1068) (by decide +kernel)) (by decide +kernel)
theorem sel_85 : Cond.selects (xnm 85).cls (xnm 85) (xnm 85) ∈ xWds := xW1 (List.mem_of_getElem? (i := 1069) (by decide +kernel)) (by decide +kernel)
theorem nm_85 : (xnm 85).cls ≠ "java/lang/invoke/MethodHandle" ∧ (xnm 85).cls ≠ "java/lang/invoke/VarHandle" ∧ (parseMethodDescriptor (xnm 85).desc).map (fun d => d.parameters.length) = some 1 := by decide +kernel
theorem ns_85 : (xnm 85).name ≠ "<init>" ∧ (parseMethodDescriptor (xnm 85).desc).map (fun d => d.parameters.length) = some 1 := by decide +kernel
theorem cw_86 : xcw 86 = Cond.code (xnm 86) cX10_isReading 1 (some .boolean) := rfl
theorem cm_86 : xcw 86 ∈ xWds := xW1 (List.mem_of_getElem? (i := 1084) (by decide +kernel)) (by decide +kernel)
theorem ini_86 : Cond.initialized (xnm 86).cls ∈ xWds := xW1 (List.mem_of_getElem? (i := 1) (by decide +kernel)) (by decide +kernel)
theorem st_86 : Cond.static (xnm 86) ∈ xWds := xW1 (List.mem_of_getElem? (i := 1083) (by decide +kernel)) (by decide +kernel)
theorem nm_86 : (xnm 86).cls ≠ "java/lang/invoke/MethodHandle" ∧ (xnm 86).cls ≠ "java/lang/invoke/VarHandle" ∧ (parseMethodDescriptor (xnm 86).desc).map (fun d => d.parameters.length) = some 1 := by decide +kernel
theorem ns_86 : (xnm 86).name ≠ "<init>" ∧ (parseMethodDescriptor (xnm 86).desc).map (fun d => d.parameters.length) = some 1 := by decide +kernel
theorem cw_87 : xcw 87 = Cond.code (xnm 87) cX10_tells 9 (some .int) := rfl
theorem cm_87 : xcw 87 ∈ xWds := xW1 (List.mem_of_getElem? (i := 1081) (by decide +kernel)) (by decide +kernel)
theorem ini_87 : Cond.initialized (xnm 87).cls ∈ xWds := xW1 (List.mem_of_getElem? (i := 1) (by decide +kernel)) (by decide +kernel)
theorem in_87 : Cond.instanceMethod (xnm 87) ∈ xWds := xW1 (List.mem_of_getElem? (i := 1079) (by decide +kernel)) (by decide +kernel)
theorem sel_87 : Cond.selects (xnm 87).cls (xnm 87) (xnm 87) ∈ xWds := xW1 (List.mem_of_getElem? (i := 1080) (by decide +kernel)) (by decide +kernel)
theorem nm_87 : (xnm 87).cls ≠ "java/lang/invoke/MethodHandle" ∧ (xnm 87).cls ≠ "java/lang/invoke/VarHandle" ∧ (parseMethodDescriptor (xnm 87).desc).map (fun d => d.parameters.length) = some 6 := by decide +kernel
theorem ns_87 : (xnm 87).name ≠ "<init>" ∧ (parseMethodDescriptor (xnm 87).desc).map (fun d => d.parameters.length) = some 6 := by decide +kernel
theorem cw_88 : xcw 88 = Cond.code (xnm 88) cX10_fieldAround 6 (some .long) := rfl
theorem cm_88 : xcw 88 ∈ xWds := xW1 (List.mem_of_getElem? (i := 133) (by decide +kernel)) (by decide +kernel)
theorem ini_88 : Cond.initialized (xnm 88).cls ∈ xWds := xW1 (List.mem_of_getElem? (i := 1) (by decide +kernel)) (by decide +kernel)
theorem st_88 : Cond.static (xnm 88) ∈ xWds := xW1 (List.mem_of_getElem? (i := 132) (by decide +kernel)) (by decide +kernel)
theorem nm_88 : (xnm 88).cls ≠ "java/lang/invoke/MethodHandle" ∧ (xnm 88).cls ≠ "java/lang/invoke/VarHandle" ∧ (parseMethodDescriptor (xnm 88).desc).map (fun d => d.parameters.length) = some 2 := by decide +kernel
theorem ns_88 : (xnm 88).name ≠ "<init>" ∧ (parseMethodDescriptor (xnm 88).desc).map (fun d => d.parameters.length) = some 2 := by decide +kernel
theorem cw_90 : xcw 90 = Cond.code (xnm 90) cX10_bill 6 (some .int) := rfl
theorem cm_90 : xcw 90 ∈ xWds := xW1 (List.mem_of_getElem? (i := 1093) (by decide +kernel)) (by decide +kernel)
theorem ini_90 : Cond.initialized (xnm 90).cls ∈ xWds := xW1 (List.mem_of_getElem? (i := 1) (by decide +kernel)) (by decide +kernel)
theorem in_90 : Cond.instanceMethod (xnm 90) ∈ xWds := xW1 (List.mem_of_getElem? (i := 1091) (by decide +kernel)) (by decide +kernel)
theorem sel_90 : Cond.selects (xnm 90).cls (xnm 90) (xnm 90) ∈ xWds := xW1 (List.mem_of_getElem? (i := 1092) (by decide +kernel)) (by decide +kernel)
theorem nm_90 : (xnm 90).cls ≠ "java/lang/invoke/MethodHandle" ∧ (xnm 90).cls ≠ "java/lang/invoke/VarHandle" ∧ (parseMethodDescriptor (xnm 90).desc).map (fun d => d.parameters.length) = some 3 := by decide +kernel
theorem ns_90 : (xnm 90).name ≠ "<init>" ∧ (parseMethodDescriptor (xnm 90).desc).map (fun d => d.parameters.length) = some 3 := by decide +kernel
theorem cw_93 : xcw 93 = Cond.code (xnm 93) cX11_goes 2 (some .boolean) := rfl
theorem cm_93 : xcw 93 ∈ xWds := xW1 (List.mem_of_getElem? (i := 1216) (by decide +kernel)) (by decide +kernel)
theorem ini_93 : Cond.initialized (xnm 93).cls ∈ xWds := xW1 (List.mem_of_getElem? (i := 7) (by decide +kernel)) (by decide +kernel)
theorem in_93 : Cond.instanceMethod (xnm 93) ∈ xWds := xW1 (List.mem_of_getElem? (i := 1215) (by decide +kernel)) (by decide +kernel)
theorem sel_93 : Cond.selects (xnm 93).cls (xnm 93) (xnm 93) ∈ xWds := xWds_in (List.mem_append_left _ (List.mem_of_getElem? (i := 12) (by decide +kernel))) (by decide +kernel)
theorem nm_93 : (xnm 93).cls ≠ "java/lang/invoke/MethodHandle" ∧ (xnm 93).cls ≠ "java/lang/invoke/VarHandle" ∧ (parseMethodDescriptor (xnm 93).desc).map (fun d => d.parameters.length) = some 1 := by decide +kernel
theorem ns_93 : (xnm 93).name ≠ "<init>" ∧ (parseMethodDescriptor (xnm 93).desc).map (fun d => d.parameters.length) = some 1 := by decide +kernel
theorem cw_94 : xcw 94 = Cond.code (xnm 94) cX11_isBetween 3 (some .boolean) := rfl
theorem cm_94 : xcw 94 ∈ xWds := xW1 (List.mem_of_getElem? (i := 1212) (by decide +kernel)) (by decide +kernel)
theorem ini_94 : Cond.initialized (xnm 94).cls ∈ xWds := xW1 (List.mem_of_getElem? (i := 7) (by decide +kernel)) (by decide +kernel)
theorem st_94 : Cond.static (xnm 94) ∈ xWds := xW1 (List.mem_of_getElem? (i := 1211) (by decide +kernel)) (by decide +kernel)
theorem nm_94 : (xnm 94).cls ≠ "java/lang/invoke/MethodHandle" ∧ (xnm 94).cls ≠ "java/lang/invoke/VarHandle" ∧ (parseMethodDescriptor (xnm 94).desc).map (fun d => d.parameters.length) = some 3 := by decide +kernel
theorem ns_94 : (xnm 94).name ≠ "<init>" ∧ (parseMethodDescriptor (xnm 94).desc).map (fun d => d.parameters.length) = some 3 := by decide +kernel
theorem cw_95 : xcw 95 = Cond.code (xnm 95) cX11_isWall 2 (some .boolean) := rfl
theorem cm_95 : xcw 95 ∈ xWds := xW1 (List.mem_of_getElem? (i := 1228) (by decide +kernel)) (by decide +kernel)
theorem ini_95 : Cond.initialized (xnm 95).cls ∈ xWds := xW1 (List.mem_of_getElem? (i := 7) (by decide +kernel)) (by decide +kernel)
theorem in_95 : Cond.instanceMethod (xnm 95) ∈ xWds := xW1 (List.mem_of_getElem? (i := 1227) (by decide +kernel)) (by decide +kernel)
theorem sel_95 : Cond.selects (xnm 95).cls (xnm 95) (xnm 95) ∈ xWds := xWds_in (List.mem_append_left _ (List.mem_of_getElem? (i := 13) (by decide +kernel))) (by decide +kernel)
theorem nm_95 : (xnm 95).cls ≠ "java/lang/invoke/MethodHandle" ∧ (xnm 95).cls ≠ "java/lang/invoke/VarHandle" ∧ (parseMethodDescriptor (xnm 95).desc).map (fun d => d.parameters.length) = some 1 := by decide +kernel
theorem ns_95 : (xnm 95).name ≠ "<init>" ∧ (parseMethodDescriptor (xnm 95).desc).map (fun d => d.parameters.length) = some 1 := by decide +kernel
theorem cw_96 : xcw 96 = Cond.code (xnm 96) cX11_isStrip 3 (some .boolean) := rfl
theorem cm_96 : xcw 96 ∈ xWds := xW1 (List.mem_of_getElem? (i := 1236) (by decide +kernel)) (by decide +kernel)
theorem ini_96 : Cond.initialized (xnm 96).cls ∈ xWds := xW1 (List.mem_of_getElem? (i := 7) (by decide +kernel)) (by decide +kernel)
theorem in_96 : Cond.instanceMethod (xnm 96) ∈ xWds := xW1 (List.mem_of_getElem? (i := 1235) (by decide +kernel)) (by decide +kernel)
theorem sel_96 : Cond.selects (xnm 96).cls (xnm 96) (xnm 96) ∈ xWds := xWds_in (List.mem_append_left _ (List.mem_of_getElem? (i := 14) (by decide +kernel))) (by decide +kernel)
theorem nm_96 : (xnm 96).cls ≠ "java/lang/invoke/MethodHandle" ∧ (xnm 96).cls ≠ "java/lang/invoke/VarHandle" ∧ (parseMethodDescriptor (xnm 96).desc).map (fun d => d.parameters.length) = some 2 := by decide +kernel
theorem ns_96 : (xnm 96).name ≠ "<init>" ∧ (parseMethodDescriptor (xnm 96).desc).map (fun d => d.parameters.length) = some 2 := by decide +kernel
theorem cw_97 : xcw 97 = Cond.code (xnm 97) cX11_isCoat 4 (some .boolean) := rfl
theorem cm_97 : xcw 97 ∈ xWds := xW1 (List.mem_of_getElem? (i := 1299) (by decide +kernel)) (by decide +kernel)
theorem ini_97 : Cond.initialized (xnm 97).cls ∈ xWds := xW1 (List.mem_of_getElem? (i := 7) (by decide +kernel)) (by decide +kernel)
theorem in_97 : Cond.instanceMethod (xnm 97) ∈ xWds := xW1 (List.mem_of_getElem? (i := 1298) (by decide +kernel)) (by decide +kernel)
theorem sel_97 : Cond.selects (xnm 97).cls (xnm 97) (xnm 97) ∈ xWds := xWds_in (List.mem_append_left _ (List.mem_of_getElem? (i := 21) (by decide +kernel))) (by decide +kernel)
theorem nm_97 : (xnm 97).cls ≠ "java/lang/invoke/MethodHandle" ∧ (xnm 97).cls ≠ "java/lang/invoke/VarHandle" ∧ (parseMethodDescriptor (xnm 97).desc).map (fun d => d.parameters.length) = some 3 := by decide +kernel
theorem ns_97 : (xnm 97).name ≠ "<init>" ∧ (parseMethodDescriptor (xnm 97).desc).map (fun d => d.parameters.length) = some 3 := by decide +kernel
theorem cw_98 : xcw 98 = Cond.code (xnm 98) cX11_hard 1 (some .int) := rfl
theorem cm_98 : xcw 98 ∈ xWds := xW1 (List.mem_of_getElem? (i := 1254) (by decide +kernel)) (by decide +kernel)
theorem ini_98 : Cond.initialized (xnm 98).cls ∈ xWds := xW1 (List.mem_of_getElem? (i := 7) (by decide +kernel)) (by decide +kernel)
theorem st_98 : Cond.static (xnm 98) ∈ xWds := xW1 (List.mem_of_getElem? (i := 1253) (by decide +kernel)) (by decide +kernel)
theorem nm_98 : (xnm 98).cls ≠ "java/lang/invoke/MethodHandle" ∧ (xnm 98).cls ≠ "java/lang/invoke/VarHandle" ∧ (parseMethodDescriptor (xnm 98).desc).map (fun d => d.parameters.length) = some 1 := by decide +kernel
theorem ns_98 : (xnm 98).name ≠ "<init>" ∧ (parseMethodDescriptor (xnm 98).desc).map (fun d => d.parameters.length) = some 1 := by decide +kernel
theorem cw_99 : xcw 99 = Cond.code (xnm 99) cX11_needs 1 (some .int) := rfl
theorem cm_99 : xcw 99 ∈ xWds := xW1 (List.mem_of_getElem? (i := 1291) (by decide +kernel)) (by decide +kernel)
theorem ini_99 : Cond.initialized (xnm 99).cls ∈ xWds := xW1 (List.mem_of_getElem? (i := 7) (by decide +kernel)) (by decide +kernel)
theorem st_99 : Cond.static (xnm 99) ∈ xWds := xW1 (List.mem_of_getElem? (i := 1290) (by decide +kernel)) (by decide +kernel)
theorem nm_99 : (xnm 99).cls ≠ "java/lang/invoke/MethodHandle" ∧ (xnm 99).cls ≠ "java/lang/invoke/VarHandle" ∧ (parseMethodDescriptor (xnm 99).desc).map (fun d => d.parameters.length) = some 1 := by decide +kernel
theorem ns_99 : (xnm 99).name ≠ "<init>" ∧ (parseMethodDescriptor (xnm 99).desc).map (fun d => d.parameters.length) = some 1 := by decide +kernel
theorem cw_100 : xcw 100 = Cond.code (xnm 100) cX11_shrinks 1 (some .int) := rfl
theorem cm_100 : xcw 100 ∈ xWds := xW1 (List.mem_of_getElem? (i := 1268) (by decide +kernel)) (by decide +kernel)
theorem ini_100 : Cond.initialized (xnm 100).cls ∈ xWds := xW1 (List.mem_of_getElem? (i := 7) (by decide +kernel)) (by decide +kernel)
theorem st_100 : Cond.static (xnm 100) ∈ xWds := xW1 (List.mem_of_getElem? (i := 1267) (by decide +kernel)) (by decide +kernel)
theorem nm_100 : (xnm 100).cls ≠ "java/lang/invoke/MethodHandle" ∧ (xnm 100).cls ≠ "java/lang/invoke/VarHandle" ∧ (parseMethodDescriptor (xnm 100).desc).map (fun d => d.parameters.length) = some 1 := by decide +kernel
theorem ns_100 : (xnm 100).name ≠ "<init>" ∧ (parseMethodDescriptor (xnm 100).desc).map (fun d => d.parameters.length) = some 1 := by decide +kernel
theorem cw_101 : xcw 101 = Cond.code (xnm 101) cX11_hardOf 1 (some .int) := rfl
theorem cm_101 : xcw 101 ∈ xWds := xW1 (List.mem_of_getElem? (i := 1251) (by decide +kernel)) (by decide +kernel)
theorem ini_101 : Cond.initialized (xnm 101).cls ∈ xWds := xW1 (List.mem_of_getElem? (i := 7) (by decide +kernel)) (by decide +kernel)
theorem st_101 : Cond.static (xnm 101) ∈ xWds := xW1 (List.mem_of_getElem? (i := 1250) (by decide +kernel)) (by decide +kernel)
theorem nm_101 : (xnm 101).cls ≠ "java/lang/invoke/MethodHandle" ∧ (xnm 101).cls ≠ "java/lang/invoke/VarHandle" ∧ (parseMethodDescriptor (xnm 101).desc).map (fun d => d.parameters.length) = some 1 := by decide +kernel
theorem ns_101 : (xnm 101).name ≠ "<init>" ∧ (parseMethodDescriptor (xnm 101).desc).map (fun d => d.parameters.length) = some 1 := by decide +kernel
theorem cw_102 : xcw 102 = Cond.code (xnm 102) cX11_keysOf 1 (some .int) := rfl
theorem cm_102 : xcw 102 ∈ xWds := xW1 (List.mem_of_getElem? (i := 1265) (by decide +kernel)) (by decide +kernel)
theorem ini_102 : Cond.initialized (xnm 102).cls ∈ xWds := xW1 (List.mem_of_getElem? (i := 7) (by decide +kernel)) (by decide +kernel)
theorem st_102 : Cond.static (xnm 102) ∈ xWds := xW1 (List.mem_of_getElem? (i := 1264) (by decide +kernel)) (by decide +kernel)
theorem nm_102 : (xnm 102).cls ≠ "java/lang/invoke/MethodHandle" ∧ (xnm 102).cls ≠ "java/lang/invoke/VarHandle" ∧ (parseMethodDescriptor (xnm 102).desc).map (fun d => d.parameters.length) = some 1 := by decide +kernel
theorem ns_102 : (xnm 102).name ≠ "<init>" ∧ (parseMethodDescriptor (xnm 102).desc).map (fun d => d.parameters.length) = some 1 := by decide +kernel
theorem cw_107 : xcw 107 = Cond.code (xnm 107) cX11_upper 2 (some .int) := rfl
theorem cm_107 : xcw 107 ∈ xWds := xW1 (List.mem_of_getElem? (i := 1248) (by decide +kernel)) (by decide +kernel)
theorem ini_107 : Cond.initialized (xnm 107).cls ∈ xWds := xW1 (List.mem_of_getElem? (i := 7) (by decide +kernel)) (by decide +kernel)
theorem in_107 : Cond.instanceMethod (xnm 107) ∈ xWds := xW1 (List.mem_of_getElem? (i := 1247) (by decide +kernel)) (by decide +kernel)
theorem sel_107 : Cond.selects (xnm 107).cls (xnm 107) (xnm 107) ∈ xWds := xWds_in (List.mem_append_left _ (List.mem_of_getElem? (i := 16) (by decide +kernel))) (by decide +kernel)
theorem nm_107 : (xnm 107).cls ≠ "java/lang/invoke/MethodHandle" ∧ (xnm 107).cls ≠ "java/lang/invoke/VarHandle" ∧ (parseMethodDescriptor (xnm 107).desc).map (fun d => d.parameters.length) = some 1 := by decide +kernel
theorem ns_107 : (xnm 107).name ≠ "<init>" ∧ (parseMethodDescriptor (xnm 107).desc).map (fun d => d.parameters.length) = some 1 := by decide +kernel
theorem cw_108 : xcw 108 = Cond.code (xnm 108) cX11_isRefused 6 (some .boolean) := rfl
theorem cm_108 : xcw 108 ∈ xWds := xW1 (List.mem_of_getElem? (i := 1244) (by decide +kernel)) (by decide +kernel)
theorem ini_108 : Cond.initialized (xnm 108).cls ∈ xWds := xW1 (List.mem_of_getElem? (i := 7) (by decide +kernel)) (by decide +kernel)
theorem in_108 : Cond.instanceMethod (xnm 108) ∈ xWds := xW1 (List.mem_of_getElem? (i := 1243) (by decide +kernel)) (by decide +kernel)
theorem sel_108 : Cond.selects (xnm 108).cls (xnm 108) (xnm 108) ∈ xWds := xWds_in (List.mem_append_left _ (List.mem_of_getElem? (i := 15) (by decide +kernel))) (by decide +kernel)
theorem nm_108 : (xnm 108).cls ≠ "java/lang/invoke/MethodHandle" ∧ (xnm 108).cls ≠ "java/lang/invoke/VarHandle" ∧ (parseMethodDescriptor (xnm 108).desc).map (fun d => d.parameters.length) = some 3 := by decide +kernel
theorem ns_108 : (xnm 108).name ≠ "<init>" ∧ (parseMethodDescriptor (xnm 108).desc).map (fun d => d.parameters.length) = some 3 := by decide +kernel
theorem cw_109 : xcw 109 = Cond.code (xnm 109) cX11_keys 4 (some .int) := rfl
theorem cm_109 : xcw 109 ∈ xWds := xW1 (List.mem_of_getElem? (i := 1262) (by decide +kernel)) (by decide +kernel)
theorem ini_109 : Cond.initialized (xnm 109).cls ∈ xWds := xW1 (List.mem_of_getElem? (i := 7) (by decide +kernel)) (by decide +kernel)
theorem in_109 : Cond.instanceMethod (xnm 109) ∈ xWds := xW1 (List.mem_of_getElem? (i := 1261) (by decide +kernel)) (by decide +kernel)
theorem sel_109 : Cond.selects (xnm 109).cls (xnm 109) (xnm 109) ∈ xWds := xWds_in (List.mem_append_left _ (List.mem_of_getElem? (i := 18) (by decide +kernel))) (by decide +kernel)
theorem nm_109 : (xnm 109).cls ≠ "java/lang/invoke/MethodHandle" ∧ (xnm 109).cls ≠ "java/lang/invoke/VarHandle" ∧ (parseMethodDescriptor (xnm 109).desc).map (fun d => d.parameters.length) = some 2 := by decide +kernel
theorem ns_109 : (xnm 109).name ≠ "<init>" ∧ (parseMethodDescriptor (xnm 109).desc).map (fun d => d.parameters.length) = some 2 := by decide +kernel
theorem cw_110 : xcw 110 = Cond.code (xnm 110) cX11_hasEdge 7 (some .boolean) := rfl
theorem cm_110 : xcw 110 ∈ xWds := xW1 (List.mem_of_getElem? (i := 1272) (by decide +kernel)) (by decide +kernel)
theorem ini_110 : Cond.initialized (xnm 110).cls ∈ xWds := xW1 (List.mem_of_getElem? (i := 7) (by decide +kernel)) (by decide +kernel)
theorem in_110 : Cond.instanceMethod (xnm 110) ∈ xWds := xW1 (List.mem_of_getElem? (i := 1271) (by decide +kernel)) (by decide +kernel)
theorem sel_110 : Cond.selects (xnm 110).cls (xnm 110) (xnm 110) ∈ xWds := xWds_in (List.mem_append_left _ (List.mem_of_getElem? (i := 19) (by decide +kernel))) (by decide +kernel)
theorem nm_110 : (xnm 110).cls ≠ "java/lang/invoke/MethodHandle" ∧ (xnm 110).cls ≠ "java/lang/invoke/VarHandle" ∧ (parseMethodDescriptor (xnm 110).desc).map (fun d => d.parameters.length) = some 4 := by decide +kernel
theorem ns_110 : (xnm 110).name ≠ "<init>" ∧ (parseMethodDescriptor (xnm 110).desc).map (fun d => d.parameters.length) = some 4 := by decide +kernel
theorem cw_111 : xcw 111 = Cond.code (xnm 111) cX11_lays 8 none := rfl
theorem cm_111 : xcw 111 ∈ xWds := xW1 (List.mem_of_getElem? (i := 1258) (by decide +kernel)) (by decide +kernel)
theorem ini_111 : Cond.initialized (xnm 111).cls ∈ xWds := xW1 (List.mem_of_getElem? (i := 7) (by decide +kernel)) (by decide +kernel)
theorem in_111 : Cond.instanceMethod (xnm 111) ∈ xWds := xW1 (List.mem_of_getElem? (i := 1257) (by decide +kernel)) (by decide +kernel)
theorem sel_111 : Cond.selects (xnm 111).cls (xnm 111) (xnm 111) ∈ xWds := xWds_in (List.mem_append_left _ (List.mem_of_getElem? (i := 17) (by decide +kernel))) (by decide +kernel)
theorem nm_111 : (xnm 111).cls ≠ "java/lang/invoke/MethodHandle" ∧ (xnm 111).cls ≠ "java/lang/invoke/VarHandle" ∧ (parseMethodDescriptor (xnm 111).desc).map (fun d => d.parameters.length) = some 4 := by decide +kernel
theorem ns_111 : (xnm 111).name ≠ "<init>" ∧ (parseMethodDescriptor (xnm 111).desc).map (fun d => d.parameters.length) = some 4 := by decide +kernel
theorem cw_115 : xcw 115 = Cond.code (xnm 115) cX11_dries 4 (some .boolean) := rfl
theorem cm_115 : xcw 115 ∈ xWds := xW1 (List.mem_of_getElem? (i := 1288) (by decide +kernel)) (by decide +kernel)
theorem ini_115 : Cond.initialized (xnm 115).cls ∈ xWds := xW1 (List.mem_of_getElem? (i := 7) (by decide +kernel)) (by decide +kernel)
theorem in_115 : Cond.instanceMethod (xnm 115) ∈ xWds := xW1 (List.mem_of_getElem? (i := 1287) (by decide +kernel)) (by decide +kernel)
theorem sel_115 : Cond.selects (xnm 115).cls (xnm 115) (xnm 115) ∈ xWds := xWds_in (List.mem_append_left _ (List.mem_of_getElem? (i := 20) (by decide +kernel))) (by decide +kernel)
theorem nm_115 : (xnm 115).cls ≠ "java/lang/invoke/MethodHandle" ∧ (xnm 115).cls ≠ "java/lang/invoke/VarHandle" ∧ (parseMethodDescriptor (xnm 115).desc).map (fun d => d.parameters.length) = some 1 := by decide +kernel
theorem ns_115 : (xnm 115).name ≠ "<init>" ∧ (parseMethodDescriptor (xnm 115).desc).map (fun d => d.parameters.length) = some 1 := by decide +kernel
theorem cw_119 : xcw 119 = Cond.code (xnm 119) cX11_sign 4 (some .char) := rfl
theorem cm_119 : xcw 119 ∈ xWds := xW1 (List.mem_of_getElem? (i := 1318) (by decide +kernel)) (by decide +kernel)
theorem ini_119 : Cond.initialized (xnm 119).cls ∈ xWds := xW1 (List.mem_of_getElem? (i := 7) (by decide +kernel)) (by decide +kernel)
theorem st_119 : Cond.static (xnm 119) ∈ xWds := xW1 (List.mem_of_getElem? (i := 1317) (by decide +kernel)) (by decide +kernel)
theorem nm_119 : (xnm 119).cls ≠ "java/lang/invoke/MethodHandle" ∧ (xnm 119).cls ≠ "java/lang/invoke/VarHandle" ∧ (parseMethodDescriptor (xnm 119).desc).map (fun d => d.parameters.length) = some 3 := by decide +kernel
theorem ns_119 : (xnm 119).name ≠ "<init>" ∧ (parseMethodDescriptor (xnm 119).desc).map (fun d => d.parameters.length) = some 3 := by decide +kernel
theorem cw_120 : xcw 120 = Cond.code (xnm 120) cX11_textOf 7 (some .char) := rfl
theorem cm_120 : xcw 120 ∈ xWds := xW1 (List.mem_of_getElem? (i := 1311) (by decide +kernel)) (by decide +kernel)
theorem ini_120 : Cond.initialized (xnm 120).cls ∈ xWds := xW1 (List.mem_of_getElem? (i := 7) (by decide +kernel)) (by decide +kernel)
theorem in_120 : Cond.instanceMethod (xnm 120) ∈ xWds := xW1 (List.mem_of_getElem? (i := 1310) (by decide +kernel)) (by decide +kernel)
theorem sel_120 : Cond.selects (xnm 120).cls (xnm 120) (xnm 120) ∈ xWds := xWds_in (List.mem_append_left _ (List.mem_of_getElem? (i := 22) (by decide +kernel))) (by decide +kernel)
theorem nm_120 : (xnm 120).cls ≠ "java/lang/invoke/MethodHandle" ∧ (xnm 120).cls ≠ "java/lang/invoke/VarHandle" ∧ (parseMethodDescriptor (xnm 120).desc).map (fun d => d.parameters.length) = some 2 := by decide +kernel
theorem ns_120 : (xnm 120).name ≠ "<init>" ∧ (parseMethodDescriptor (xnm 120).desc).map (fun d => d.parameters.length) = some 2 := by decide +kernel
theorem cw_122 : xcw 122 = Cond.code (xnm 122) cX11_isProfile 2 (some .boolean) := rfl
theorem cm_122 : xcw 122 ∈ xWds := xW1 (List.mem_of_getElem? (i := 1333) (by decide +kernel)) (by decide +kernel)
theorem ini_122 : Cond.initialized (xnm 122).cls ∈ xWds := xW1 (List.mem_of_getElem? (i := 7) (by decide +kernel)) (by decide +kernel)
theorem in_122 : Cond.instanceMethod (xnm 122) ∈ xWds := xW1 (List.mem_of_getElem? (i := 1332) (by decide +kernel)) (by decide +kernel)
theorem sel_122 : Cond.selects (xnm 122).cls (xnm 122) (xnm 122) ∈ xWds := xWds_in (List.mem_append_left _ (List.mem_of_getElem? (i := 23) (by decide +kernel))) (by decide +kernel)
theorem nm_122 : (xnm 122).cls ≠ "java/lang/invoke/MethodHandle" ∧ (xnm 122).cls ≠ "java/lang/invoke/VarHandle" ∧ (parseMethodDescriptor (xnm 122).desc).map (fun d => d.parameters.length) = some 1 := by decide +kernel
theorem ns_122 : (xnm 122).name ≠ "<init>" ∧ (parseMethodDescriptor (xnm 122).desc).map (fun d => d.parameters.length) = some 1 := by decide +kernel
theorem cw_125 : xcw 125 = Cond.code (xnm 125) cX11_depthAt 4 (some .int) := rfl
theorem cm_125 : xcw 125 ∈ xWds := xW1 (List.mem_of_getElem? (i := 1343) (by decide +kernel)) (by decide +kernel)
theorem ini_125 : Cond.initialized (xnm 125).cls ∈ xWds := xW1 (List.mem_of_getElem? (i := 7) (by decide +kernel)) (by decide +kernel)
theorem in_125 : Cond.instanceMethod (xnm 125) ∈ xWds := xW1 (List.mem_of_getElem? (i := 1342) (by decide +kernel)) (by decide +kernel)
theorem sel_125 : Cond.selects (xnm 125).cls (xnm 125) (xnm 125) ∈ xWds := xWds_in (List.mem_append_left _ (List.mem_of_getElem? (i := 24) (by decide +kernel))) (by decide +kernel)
theorem nm_125 : (xnm 125).cls ≠ "java/lang/invoke/MethodHandle" ∧ (xnm 125).cls ≠ "java/lang/invoke/VarHandle" ∧ (parseMethodDescriptor (xnm 125).desc).map (fun d => d.parameters.length) = some 2 := by decide +kernel
theorem ns_125 : (xnm 125).name ≠ "<init>" ∧ (parseMethodDescriptor (xnm 125).desc).map (fun d => d.parameters.length) = some 2 := by decide +kernel
theorem cw_127 : xcw 127 = Cond.code (xnm 127) cX11_areLong 2 (some .boolean) := rfl
theorem cm_127 : xcw 127 ∈ xWds := xW1 (List.mem_of_getElem? (i := 1350) (by decide +kernel)) (by decide +kernel)
theorem ini_127 : Cond.initialized (xnm 127).cls ∈ xWds := xW1 (List.mem_of_getElem? (i := 7) (by decide +kernel)) (by decide +kernel)
theorem st_127 : Cond.static (xnm 127) ∈ xWds := xW1 (List.mem_of_getElem? (i := 1349) (by decide +kernel)) (by decide +kernel)
theorem nm_127 : (xnm 127).cls ≠ "java/lang/invoke/MethodHandle" ∧ (xnm 127).cls ≠ "java/lang/invoke/VarHandle" ∧ (parseMethodDescriptor (xnm 127).desc).map (fun d => d.parameters.length) = some 2 := by decide +kernel
theorem ns_127 : (xnm 127).name ≠ "<init>" ∧ (parseMethodDescriptor (xnm 127).desc).map (fun d => d.parameters.length) = some 2 := by decide +kernel
theorem cw_128 : xcw 128 = Cond.code (xnm 128) cX11_times 7 (some .int) := rfl
theorem cm_128 : xcw 128 ∈ xWds := xW1 (List.mem_of_getElem? (i := 1354) (by decide +kernel)) (by decide +kernel)
theorem ini_128 : Cond.initialized (xnm 128).cls ∈ xWds := xW1 (List.mem_of_getElem? (i := 7) (by decide +kernel)) (by decide +kernel)
theorem st_128 : Cond.static (xnm 128) ∈ xWds := xW1 (List.mem_of_getElem? (i := 1353) (by decide +kernel)) (by decide +kernel)
theorem nm_128 : (xnm 128).cls ≠ "java/lang/invoke/MethodHandle" ∧ (xnm 128).cls ≠ "java/lang/invoke/VarHandle" ∧ (parseMethodDescriptor (xnm 128).desc).map (fun d => d.parameters.length) = some 2 := by decide +kernel
theorem ns_128 : (xnm 128).name ≠ "<init>" ∧ (parseMethodDescriptor (xnm 128).desc).map (fun d => d.parameters.length) = some 2 := by decide +kernel
theorem cw_132 : xcw 132 = Cond.code (xnm 132) cX11_isPigment 1 (some .boolean) := rfl
theorem cm_132 : xcw 132 ∈ xWds := xW1 (List.mem_of_getElem? (i := 1369) (by decide +kernel)) (by decide +kernel)
theorem ini_132 : Cond.initialized (xnm 132).cls ∈ xWds := xW1 (List.mem_of_getElem? (i := 7) (by decide +kernel)) (by decide +kernel)
theorem st_132 : Cond.static (xnm 132) ∈ xWds := xW1 (List.mem_of_getElem? (i := 1368) (by decide +kernel)) (by decide +kernel)
theorem nm_132 : (xnm 132).cls ≠ "java/lang/invoke/MethodHandle" ∧ (xnm 132).cls ≠ "java/lang/invoke/VarHandle" ∧ (parseMethodDescriptor (xnm 132).desc).map (fun d => d.parameters.length) = some 1 := by decide +kernel
theorem ns_132 : (xnm 132).name ≠ "<init>" ∧ (parseMethodDescriptor (xnm 132).desc).map (fun d => d.parameters.length) = some 1 := by decide +kernel
theorem cw_133 : xcw 133 = Cond.code (xnm 133) cX11_has 3 (some .boolean) := rfl
theorem cm_133 : xcw 133 ∈ xWds := xW1 (List.mem_of_getElem? (i := 1377) (by decide +kernel)) (by decide +kernel)
theorem ini_133 : Cond.initialized (xnm 133).cls ∈ xWds := xW1 (List.mem_of_getElem? (i := 7) (by decide +kernel)) (by decide +kernel)
theorem st_133 : Cond.static (xnm 133) ∈ xWds := xW1 (List.mem_of_getElem? (i := 1376) (by decide +kernel)) (by decide +kernel)
theorem nm_133 : (xnm 133).cls ≠ "java/lang/invoke/MethodHandle" ∧ (xnm 133).cls ≠ "java/lang/invoke/VarHandle" ∧ (parseMethodDescriptor (xnm 133).desc).map (fun d => d.parameters.length) = some 2 := by decide +kernel
theorem ns_133 : (xnm 133).name ≠ "<init>" ∧ (parseMethodDescriptor (xnm 133).desc).map (fun d => d.parameters.length) = some 2 := by decide +kernel
theorem cw_136 : xcw 136 = Cond.code (xnm 136) cX11_isPatch 2 (some .boolean) := rfl
theorem cm_136 : xcw 136 ∈ xWds := xW1 (List.mem_of_getElem? (i := 1385) (by decide +kernel)) (by decide +kernel)
theorem ini_136 : Cond.initialized (xnm 136).cls ∈ xWds := xW1 (List.mem_of_getElem? (i := 7) (by decide +kernel)) (by decide +kernel)
theorem in_136 : Cond.instanceMethod (xnm 136) ∈ xWds := xW1 (List.mem_of_getElem? (i := 1384) (by decide +kernel)) (by decide +kernel)
theorem sel_136 : Cond.selects (xnm 136).cls (xnm 136) (xnm 136) ∈ xWds := xWds_in (List.mem_append_left _ (List.mem_of_getElem? (i := 25) (by decide +kernel))) (by decide +kernel)
theorem nm_136 : (xnm 136).cls ≠ "java/lang/invoke/MethodHandle" ∧ (xnm 136).cls ≠ "java/lang/invoke/VarHandle" ∧ (parseMethodDescriptor (xnm 136).desc).map (fun d => d.parameters.length) = some 1 := by decide +kernel
theorem ns_136 : (xnm 136).name ≠ "<init>" ∧ (parseMethodDescriptor (xnm 136).desc).map (fun d => d.parameters.length) = some 1 := by decide +kernel
theorem cw_139 : xcw 139 = Cond.code (xnm 139) cX11_areBeside 3 (some .boolean) := rfl
theorem cm_139 : xcw 139 ∈ xWds := xW1 (List.mem_of_getElem? (i := 1400) (by decide +kernel)) (by decide +kernel)
theorem ini_139 : Cond.initialized (xnm 139).cls ∈ xWds := xW1 (List.mem_of_getElem? (i := 7) (by decide +kernel)) (by decide +kernel)
theorem st_139 : Cond.static (xnm 139) ∈ xWds := xW1 (List.mem_of_getElem? (i := 1399) (by decide +kernel)) (by decide +kernel)
theorem nm_139 : (xnm 139).cls ≠ "java/lang/invoke/MethodHandle" ∧ (xnm 139).cls ≠ "java/lang/invoke/VarHandle" ∧ (parseMethodDescriptor (xnm 139).desc).map (fun d => d.parameters.length) = some 2 := by decide +kernel
theorem ns_139 : (xnm 139).name ≠ "<init>" ∧ (parseMethodDescriptor (xnm 139).desc).map (fun d => d.parameters.length) = some 2 := by decide +kernel
theorem cw_140 : xcw 140 = Cond.code (xnm 140) cX11_meet 5 (some .boolean) := rfl
theorem cm_140 : xcw 140 ∈ xWds := xW1 (List.mem_of_getElem? (i := 1397) (by decide +kernel)) (by decide +kernel)
theorem ini_140 : Cond.initialized (xnm 140).cls ∈ xWds := xW1 (List.mem_of_getElem? (i := 7) (by decide +kernel)) (by decide +kernel)
theorem in_140 : Cond.instanceMethod (xnm 140) ∈ xWds := xW1 (List.mem_of_getElem? (i := 1396) (by decide +kernel)) (by decide +kernel)
theorem sel_140 : Cond.selects (xnm 140).cls (xnm 140) (xnm 140) ∈ xWds := xWds_in (List.mem_append_left _ (List.mem_of_getElem? (i := 26) (by decide +kernel))) (by decide +kernel)
theorem nm_140 : (xnm 140).cls ≠ "java/lang/invoke/MethodHandle" ∧ (xnm 140).cls ≠ "java/lang/invoke/VarHandle" ∧ (parseMethodDescriptor (xnm 140).desc).map (fun d => d.parameters.length) = some 2 := by decide +kernel
theorem ns_140 : (xnm 140).name ≠ "<init>" ∧ (parseMethodDescriptor (xnm 140).desc).map (fun d => d.parameters.length) = some 2 := by decide +kernel
theorem cw_142 : xcw 142 = Cond.code (xnm 142) cX11_isReading 1 (some .boolean) := rfl
theorem cm_142 : xcw 142 ∈ xWds := xW1 (List.mem_of_getElem? (i := 1407) (by decide +kernel)) (by decide +kernel)
theorem ini_142 : Cond.initialized (xnm 142).cls ∈ xWds := xW1 (List.mem_of_getElem? (i := 7) (by decide +kernel)) (by decide +kernel)
theorem st_142 : Cond.static (xnm 142) ∈ xWds := xW1 (List.mem_of_getElem? (i := 1406) (by decide +kernel)) (by decide +kernel)
theorem nm_142 : (xnm 142).cls ≠ "java/lang/invoke/MethodHandle" ∧ (xnm 142).cls ≠ "java/lang/invoke/VarHandle" ∧ (parseMethodDescriptor (xnm 142).desc).map (fun d => d.parameters.length) = some 1 := by decide +kernel
theorem ns_142 : (xnm 142).name ≠ "<init>" ∧ (parseMethodDescriptor (xnm 142).desc).map (fun d => d.parameters.length) = some 1 := by decide +kernel
theorem cw_144 : xcw 144 = Cond.code (xnm 144) cX11_field 8 (some .int) := rfl
theorem cm_144 : xcw 144 ∈ xWds := xW1 (List.mem_of_getElem? (i := 1415) (by decide +kernel)) (by decide +kernel)
theorem ini_144 : Cond.initialized (xnm 144).cls ∈ xWds := xW1 (List.mem_of_getElem? (i := 7) (by decide +kernel)) (by decide +kernel)
theorem in_144 : Cond.instanceMethod (xnm 144) ∈ xWds := xW1 (List.mem_of_getElem? (i := 1414) (by decide +kernel)) (by decide +kernel)
theorem sel_144 : Cond.selects (xnm 144).cls (xnm 144) (xnm 144) ∈ xWds := xWds_in (List.mem_append_left _ (List.mem_of_getElem? (i := 27) (by decide +kernel))) (by decide +kernel)
theorem nm_144 : (xnm 144).cls ≠ "java/lang/invoke/MethodHandle" ∧ (xnm 144).cls ≠ "java/lang/invoke/VarHandle" ∧ (parseMethodDescriptor (xnm 144).desc).map (fun d => d.parameters.length) = some 1 := by decide +kernel
theorem ns_144 : (xnm 144).name ≠ "<init>" ∧ (parseMethodDescriptor (xnm 144).desc).map (fun d => d.parameters.length) = some 1 := by decide +kernel
theorem cw_146 : xcw 146 = Cond.code (xnm 146) cX11_paidFor 6 (some .int) := rfl
theorem cm_146 : xcw 146 ∈ xWds := xW1 (List.mem_of_getElem? (i := 1423) (by decide +kernel)) (by decide +kernel)
theorem ini_146 : Cond.initialized (xnm 146).cls ∈ xWds := xW1 (List.mem_of_getElem? (i := 7) (by decide +kernel)) (by decide +kernel)
theorem in_146 : Cond.instanceMethod (xnm 146) ∈ xWds := xW1 (List.mem_of_getElem? (i := 1422) (by decide +kernel)) (by decide +kernel)
theorem sel_146 : Cond.selects (xnm 146).cls (xnm 146) (xnm 146) ∈ xWds := xWds_in (List.mem_append_left _ (List.mem_of_getElem? (i := 28) (by decide +kernel))) (by decide +kernel)
theorem nm_146 : (xnm 146).cls ≠ "java/lang/invoke/MethodHandle" ∧ (xnm 146).cls ≠ "java/lang/invoke/VarHandle" ∧ (parseMethodDescriptor (xnm 146).desc).map (fun d => d.parameters.length) = some 2 := by decide +kernel
theorem ns_146 : (xnm 146).name ≠ "<init>" ∧ (parseMethodDescriptor (xnm 146).desc).map (fun d => d.parameters.length) = some 2 := by decide +kernel
theorem cw_148 : xcw 148 = Cond.code (xnm 148) cJ0_checkIndex_df160 2 none := rfl
theorem cm_148 : xcw 148 ∈ xWds := xW1 (List.mem_of_getElem? (i := 811) (by decide +kernel)) (by decide +kernel)
theorem ini_148 : Cond.initialized (xnm 148).cls ∈ xWds := xW1 (List.mem_of_getElem? (i := 28) (by decide +kernel)) (by decide +kernel)
theorem st_148 : Cond.static (xnm 148) ∈ xWds := xW1 (List.mem_of_getElem? (i := 810) (by decide +kernel)) (by decide +kernel)
theorem nm_148 : (xnm 148).cls ≠ "java/lang/invoke/MethodHandle" ∧ (xnm 148).cls ≠ "java/lang/invoke/VarHandle" ∧ (parseMethodDescriptor (xnm 148).desc).map (fun d => d.parameters.length) = some 2 := by decide +kernel
theorem ns_148 : (xnm 148).name ≠ "<init>" ∧ (parseMethodDescriptor (xnm 148).desc).map (fun d => d.parameters.length) = some 2 := by decide +kernel
theorem cw_149 : xcw 149 = Cond.code (xnm 149) cJ0_coder_7d493 1 (some .byte) := rfl
theorem cm_149 : xcw 149 ∈ xWds := xW1 (List.mem_of_getElem? (i := 757) (by decide +kernel)) (by decide +kernel)
theorem ini_149 : Cond.initialized (xnm 149).cls ∈ xWds := xW1 (List.mem_of_getElem? (i := 28) (by decide +kernel)) (by decide +kernel)
theorem in_149 : Cond.instanceMethod (xnm 149) ∈ xWds := xW1 (List.mem_of_getElem? (i := 755) (by decide +kernel)) (by decide +kernel)
theorem sel_149 : Cond.selects (xnm 149).cls (xnm 149) (xnm 149) ∈ xWds := xW1 (List.mem_of_getElem? (i := 756) (by decide +kernel)) (by decide +kernel)
theorem nm_149 : (xnm 149).cls ≠ "java/lang/invoke/MethodHandle" ∧ (xnm 149).cls ≠ "java/lang/invoke/VarHandle" ∧ (parseMethodDescriptor (xnm 149).desc).map (fun d => d.parameters.length) = some 0 := by decide +kernel
theorem ns_149 : (xnm 149).name ≠ "<init>" ∧ (parseMethodDescriptor (xnm 149).desc).map (fun d => d.parameters.length) = some 0 := by decide +kernel
theorem cw_150 : xcw 150 = Cond.code (xnm 150) cJ0_getBytes_840e7 4 none := rfl
theorem cm_150 : xcw 150 ∈ xWds := xW1 (List.mem_of_getElem? (i := 790) (by decide +kernel)) (by decide +kernel)
theorem ini_150 : Cond.initialized (xnm 150).cls ∈ xWds := xW1 (List.mem_of_getElem? (i := 28) (by decide +kernel)) (by decide +kernel)
theorem in_150 : Cond.instanceMethod (xnm 150) ∈ xWds := xW1 (List.mem_of_getElem? (i := 788) (by decide +kernel)) (by decide +kernel)
theorem sel_150 : Cond.selects (xnm 150).cls (xnm 150) (xnm 150) ∈ xWds := xW1 (List.mem_of_getElem? (i := 789) (by decide +kernel)) (by decide +kernel)
theorem nm_150 : (xnm 150).cls ≠ "java/lang/invoke/MethodHandle" ∧ (xnm 150).cls ≠ "java/lang/invoke/VarHandle" ∧ (parseMethodDescriptor (xnm 150).desc).map (fun d => d.parameters.length) = some 3 := by decide +kernel
theorem ns_150 : (xnm 150).name ≠ "<init>" ∧ (parseMethodDescriptor (xnm 150).desc).map (fun d => d.parameters.length) = some 3 := by decide +kernel
theorem cw_151 : xcw 151 = Cond.code (xnm 151) cJ0_length_8abf5 1 (some .int) := rfl
theorem cm_151 : xcw 151 ∈ xWds := xW1 (List.mem_of_getElem? (i := 753) (by decide +kernel)) (by decide +kernel)
theorem ini_151 : Cond.initialized (xnm 151).cls ∈ xWds := xW1 (List.mem_of_getElem? (i := 28) (by decide +kernel)) (by decide +kernel)
theorem in_151 : Cond.instanceMethod (xnm 151) ∈ xWds := xW1 (List.mem_of_getElem? (i := 751) (by decide +kernel)) (by decide +kernel)
theorem sel_151 : Cond.selects (xnm 151).cls (xnm 151) (xnm 151) ∈ xWds := xW1 (List.mem_of_getElem? (i := 752) (by decide +kernel)) (by decide +kernel)
theorem nm_151 : (xnm 151).cls ≠ "java/lang/invoke/MethodHandle" ∧ (xnm 151).cls ≠ "java/lang/invoke/VarHandle" ∧ (parseMethodDescriptor (xnm 151).desc).map (fun d => d.parameters.length) = some 0 := by decide +kernel
theorem ns_151 : (xnm 151).name ≠ "<init>" ∧ (parseMethodDescriptor (xnm 151).desc).map (fun d => d.parameters.length) = some 0 := by decide +kernel
theorem cw_152 : xcw 152 = Cond.code (xnm 152) cJ13_bitCount_95d88 2 (some .int) := rfl
theorem cm_152 : xcw 152 ∈ xWds := xW1 (List.mem_of_getElem? (i := 141) (by decide +kernel)) (by decide +kernel)
theorem ini_152 : Cond.initialized (xnm 152).cls ∈ xWds := xW1 (List.mem_of_getElem? (i := 35) (by decide +kernel)) (by decide +kernel)
theorem st_152 : Cond.static (xnm 152) ∈ xWds := xW1 (List.mem_of_getElem? (i := 140) (by decide +kernel)) (by decide +kernel)
theorem nm_152 : (xnm 152).cls ≠ "java/lang/invoke/MethodHandle" ∧ (xnm 152).cls ≠ "java/lang/invoke/VarHandle" ∧ (parseMethodDescriptor (xnm 152).desc).map (fun d => d.parameters.length) = some 1 := by decide +kernel
theorem ns_152 : (xnm 152).name ≠ "<init>" ∧ (parseMethodDescriptor (xnm 152).desc).map (fun d => d.parameters.length) = some 1 := by decide +kernel
theorem cw_153 : xcw 153 = Cond.code (xnm 153) cJ15_checkIndex_7cf53 2 (some .int) := rfl
theorem cm_153 : xcw 153 ∈ xWds := xW1 (List.mem_of_getElem? (i := 389) (by decide +kernel)) (by decide +kernel)
theorem ini_153 : Cond.initialized (xnm 153).cls ∈ xWds := xW1 (List.mem_of_getElem? (i := 20) (by decide +kernel)) (by decide +kernel)
theorem st_153 : Cond.static (xnm 153) ∈ xWds := xW1 (List.mem_of_getElem? (i := 388) (by decide +kernel)) (by decide +kernel)
theorem nm_153 : (xnm 153).cls ≠ "java/lang/invoke/MethodHandle" ∧ (xnm 153).cls ≠ "java/lang/invoke/VarHandle" ∧ (parseMethodDescriptor (xnm 153).desc).map (fun d => d.parameters.length) = some 2 := by decide +kernel
theorem ns_153 : (xnm 153).name ≠ "<init>" ∧ (parseMethodDescriptor (xnm 153).desc).map (fun d => d.parameters.length) = some 2 := by decide +kernel
theorem cw_154 : xcw 154 = Cond.code (xnm 154) cJ1_canEncode_fc78d 1 (some .boolean) := rfl
theorem cm_154 : xcw 154 ∈ xWds := xW1 (List.mem_of_getElem? (i := 802) (by decide +kernel)) (by decide +kernel)
theorem ini_154 : Cond.initialized (xnm 154).cls ∈ xWds := xW1 (List.mem_of_getElem? (i := 30) (by decide +kernel)) (by decide +kernel)
theorem st_154 : Cond.static (xnm 154) ∈ xWds := xW1 (List.mem_of_getElem? (i := 801) (by decide +kernel)) (by decide +kernel)
theorem nm_154 : (xnm 154).cls ≠ "java/lang/invoke/MethodHandle" ∧ (xnm 154).cls ≠ "java/lang/invoke/VarHandle" ∧ (parseMethodDescriptor (xnm 154).desc).map (fun d => d.parameters.length) = some 1 := by decide +kernel
theorem ns_154 : (xnm 154).name ≠ "<init>" ∧ (parseMethodDescriptor (xnm 154).desc).map (fun d => d.parameters.length) = some 1 := by decide +kernel
theorem cw_156 : xcw 156 = Cond.code (xnm 156) cJ3_checkIndex_8e157 3 (some .int) := rfl
theorem cm_156 : xcw 156 ∈ xWds := xW1 (List.mem_of_getElem? (i := 392) (by decide +kernel)) (by decide +kernel)
theorem ini_156 : Cond.initialized (xnm 156).cls ∈ xWds := xW1 (List.mem_of_getElem? (i := 21) (by decide +kernel)) (by decide +kernel)
theorem st_156 : Cond.static (xnm 156) ∈ xWds := xW1 (List.mem_of_getElem? (i := 391) (by decide +kernel)) (by decide +kernel)
theorem nm_156 : (xnm 156).cls ≠ "java/lang/invoke/MethodHandle" ∧ (xnm 156).cls ≠ "java/lang/invoke/VarHandle" ∧ (parseMethodDescriptor (xnm 156).desc).map (fun d => d.parameters.length) = some 3 := by decide +kernel
theorem ns_156 : (xnm 156).name ≠ "<init>" ∧ (parseMethodDescriptor (xnm 156).desc).map (fun d => d.parameters.length) = some 3 := by decide +kernel
theorem cw_157 : xcw 157 = Cond.code (xnm 157) cJ4_append_15ec4 2 (some (.object "java/lang/StringBuilder")) := rfl
theorem cm_157 : xcw 157 ∈ xWds := xW1 (List.mem_of_getElem? (i := 691) (by decide +kernel)) (by decide +kernel)
theorem ini_157 : Cond.initialized (xnm 157).cls ∈ xWds := xW1 (List.mem_of_getElem? (i := 27) (by decide +kernel)) (by decide +kernel)
theorem in_157 : Cond.instanceMethod (xnm 157) ∈ xWds := xW1 (List.mem_of_getElem? (i := 689) (by decide +kernel)) (by decide +kernel)
theorem sel_157 : Cond.selects (xnm 157).cls (xnm 157) (xnm 157) ∈ xWds := xW1 (List.mem_of_getElem? (i := 690) (by decide +kernel)) (by decide +kernel)
theorem nm_157 : (xnm 157).cls ≠ "java/lang/invoke/MethodHandle" ∧ (xnm 157).cls ≠ "java/lang/invoke/VarHandle" ∧ (parseMethodDescriptor (xnm 157).desc).map (fun d => d.parameters.length) = some 1 := by decide +kernel
theorem ns_157 : (xnm 157).name ≠ "<init>" ∧ (parseMethodDescriptor (xnm 157).desc).map (fun d => d.parameters.length) = some 1 := by decide +kernel
theorem cw_158 : xcw 158 = Cond.code (xnm 158) cJ4_append_bf812 2 (some (.object "java/lang/StringBuilder")) := rfl
theorem cm_158 : xcw 158 ∈ xWds := xW1 (List.mem_of_getElem? (i := 816) (by decide +kernel)) (by decide +kernel)
theorem ini_158 : Cond.initialized (xnm 158).cls ∈ xWds := xW1 (List.mem_of_getElem? (i := 27) (by decide +kernel)) (by decide +kernel)
theorem in_158 : Cond.instanceMethod (xnm 158) ∈ xWds := xW1 (List.mem_of_getElem? (i := 814) (by decide +kernel)) (by decide +kernel)
theorem sel_158 : Cond.selects (xnm 158).cls (xnm 158) (xnm 158) ∈ xWds := xW1 (List.mem_of_getElem? (i := 815) (by decide +kernel)) (by decide +kernel)
theorem nm_158 : (xnm 158).cls ≠ "java/lang/invoke/MethodHandle" ∧ (xnm 158).cls ≠ "java/lang/invoke/VarHandle" ∧ (parseMethodDescriptor (xnm 158).desc).map (fun d => d.parameters.length) = some 1 := by decide +kernel
theorem ns_158 : (xnm 158).name ≠ "<init>" ∧ (parseMethodDescriptor (xnm 158).desc).map (fun d => d.parameters.length) = some 1 := by decide +kernel
theorem cw_159 : xcw 159 = Cond.code (xnm 159) cJ4_append_cf468 2 (some (.object "java/lang/StringBuilder")) := rfl
theorem cm_159 : xcw 159 ∈ xWds := xW1 (List.mem_of_getElem? (i := 796) (by decide +kernel)) (by decide +kernel)
theorem ini_159 : Cond.initialized (xnm 159).cls ∈ xWds := xW1 (List.mem_of_getElem? (i := 27) (by decide +kernel)) (by decide +kernel)
theorem in_159 : Cond.instanceMethod (xnm 159) ∈ xWds := xW1 (List.mem_of_getElem? (i := 794) (by decide +kernel)) (by decide +kernel)
theorem sel_159 : Cond.selects (xnm 159).cls (xnm 159) (xnm 159) ∈ xWds := xW1 (List.mem_of_getElem? (i := 795) (by decide +kernel)) (by decide +kernel)
theorem nm_159 : (xnm 159).cls ≠ "java/lang/invoke/MethodHandle" ∧ (xnm 159).cls ≠ "java/lang/invoke/VarHandle" ∧ (parseMethodDescriptor (xnm 159).desc).map (fun d => d.parameters.length) = some 1 := by decide +kernel
theorem ns_159 : (xnm 159).name ≠ "<init>" ∧ (parseMethodDescriptor (xnm 159).desc).map (fun d => d.parameters.length) = some 1 := by decide +kernel
theorem cw_160 : xcw 160 = Cond.code (xnm 160) cJ4_charAt_5068e 2 (some .char) := rfl
theorem cm_160 : xcw 160 ∈ xWds := xW1 (List.mem_of_getElem? (i := 851) (by decide +kernel)) (by decide +kernel)
theorem ini_160 : Cond.initialized (xnm 160).cls ∈ xWds := xW1 (List.mem_of_getElem? (i := 27) (by decide +kernel)) (by decide +kernel)
theorem in_160 : Cond.instanceMethod (xnm 160) ∈ xWds := xW1 (List.mem_of_getElem? (i := 849) (by decide +kernel)) (by decide +kernel)
theorem sel_160 : Cond.selects (xnm 160).cls (xnm 160) (xnm 160) ∈ xWds := xW1 (List.mem_of_getElem? (i := 850) (by decide +kernel)) (by decide +kernel)
theorem nm_160 : (xnm 160).cls ≠ "java/lang/invoke/MethodHandle" ∧ (xnm 160).cls ≠ "java/lang/invoke/VarHandle" ∧ (parseMethodDescriptor (xnm 160).desc).map (fun d => d.parameters.length) = some 1 := by decide +kernel
theorem ns_160 : (xnm 160).name ≠ "<init>" ∧ (parseMethodDescriptor (xnm 160).desc).map (fun d => d.parameters.length) = some 1 := by decide +kernel
theorem cw_161 : xcw 161 = Cond.code (xnm 161) cJ4_init_da8c8 1 none := rfl
theorem cm_161 : xcw 161 ∈ xWds := xW1 (List.mem_of_getElem? (i := 662) (by decide +kernel)) (by decide +kernel)
theorem ini_161 : Cond.initialized (xnm 161).cls ∈ xWds := xW1 (List.mem_of_getElem? (i := 27) (by decide +kernel)) (by decide +kernel)
theorem in_161 : Cond.instanceMethod (xnm 161) ∈ xWds := xW1 (List.mem_of_getElem? (i := 661) (by decide +kernel)) (by decide +kernel)
theorem nm_161 : (xnm 161).cls ≠ "java/lang/invoke/MethodHandle" ∧ (xnm 161).cls ≠ "java/lang/invoke/VarHandle" ∧ (parseMethodDescriptor (xnm 161).desc).map (fun d => d.parameters.length) = some 0 := by decide +kernel
theorem cw_162 : xcw 162 = Cond.code (xnm 162) cJ4_length_8abf5 1 (some .int) := rfl
theorem cm_162 : xcw 162 ∈ xWds := xW1 (List.mem_of_getElem? (i := 844) (by decide +kernel)) (by decide +kernel)
theorem ini_162 : Cond.initialized (xnm 162).cls ∈ xWds := xW1 (List.mem_of_getElem? (i := 27) (by decide +kernel)) (by decide +kernel)
theorem in_162 : Cond.instanceMethod (xnm 162) ∈ xWds := xW1 (List.mem_of_getElem? (i := 842) (by decide +kernel)) (by decide +kernel)
theorem sel_162 : Cond.selects (xnm 162).cls (xnm 162) (xnm 162) ∈ xWds := xW1 (List.mem_of_getElem? (i := 843) (by decide +kernel)) (by decide +kernel)
theorem nm_162 : (xnm 162).cls ≠ "java/lang/invoke/MethodHandle" ∧ (xnm 162).cls ≠ "java/lang/invoke/VarHandle" ∧ (parseMethodDescriptor (xnm 162).desc).map (fun d => d.parameters.length) = some 0 := by decide +kernel
theorem ns_162 : (xnm 162).name ≠ "<init>" ∧ (parseMethodDescriptor (xnm 162).desc).map (fun d => d.parameters.length) = some 0 := by decide +kernel
theorem cw_163 : xcw 163 = Cond.code (xnm 163) cJ5_append_3fe6f 2 (some (.object "java/lang/AbstractStringBuilder")) := rfl
theorem cm_163 : xcw 163 ∈ xWds := xW1 (List.mem_of_getElem? (i := 799) (by decide +kernel)) (by decide +kernel)
theorem ini_163 : Cond.initialized (xnm 163).cls ∈ xWds := xW1 (List.mem_of_getElem? (i := 26) (by decide +kernel)) (by decide +kernel)
theorem in_163 : Cond.instanceMethod (xnm 163) ∈ xWds := xW1 (List.mem_of_getElem? (i := 798) (by decide +kernel)) (by decide +kernel)
theorem nm_163 : (xnm 163).cls ≠ "java/lang/invoke/MethodHandle" ∧ (xnm 163).cls ≠ "java/lang/invoke/VarHandle" ∧ (parseMethodDescriptor (xnm 163).desc).map (fun d => d.parameters.length) = some 1 := by decide +kernel
theorem ns_163 : (xnm 163).name ≠ "<init>" ∧ (parseMethodDescriptor (xnm 163).desc).map (fun d => d.parameters.length) = some 1 := by decide +kernel
theorem cw_164 : xcw 164 = Cond.code (xnm 164) cJ5_append_c97b9 4 (some (.object "java/lang/AbstractStringBuilder")) := rfl
theorem cm_164 : xcw 164 ∈ xWds := xW1 (List.mem_of_getElem? (i := 819) (by decide +kernel)) (by decide +kernel)
theorem ini_164 : Cond.initialized (xnm 164).cls ∈ xWds := xW1 (List.mem_of_getElem? (i := 26) (by decide +kernel)) (by decide +kernel)
theorem in_164 : Cond.instanceMethod (xnm 164) ∈ xWds := xW1 (List.mem_of_getElem? (i := 818) (by decide +kernel)) (by decide +kernel)
theorem nm_164 : (xnm 164).cls ≠ "java/lang/invoke/MethodHandle" ∧ (xnm 164).cls ≠ "java/lang/invoke/VarHandle" ∧ (parseMethodDescriptor (xnm 164).desc).map (fun d => d.parameters.length) = some 1 := by decide +kernel
theorem ns_164 : (xnm 164).name ≠ "<init>" ∧ (parseMethodDescriptor (xnm 164).desc).map (fun d => d.parameters.length) = some 1 := by decide +kernel
theorem cw_165 : xcw 165 = Cond.code (xnm 165) cJ5_append_cf1ce 3 (some (.object "java/lang/AbstractStringBuilder")) := rfl
theorem cm_165 : xcw 165 ∈ xWds := xW1 (List.mem_of_getElem? (i := 694) (by decide +kernel)) (by decide +kernel)
theorem ini_165 : Cond.initialized (xnm 165).cls ∈ xWds := xW1 (List.mem_of_getElem? (i := 26) (by decide +kernel)) (by decide +kernel)
theorem in_165 : Cond.instanceMethod (xnm 165) ∈ xWds := xW1 (List.mem_of_getElem? (i := 693) (by decide +kernel)) (by decide +kernel)
theorem nm_165 : (xnm 165).cls ≠ "java/lang/invoke/MethodHandle" ∧ (xnm 165).cls ≠ "java/lang/invoke/VarHandle" ∧ (parseMethodDescriptor (xnm 165).desc).map (fun d => d.parameters.length) = some 1 := by decide +kernel
theorem ns_165 : (xnm 165).name ≠ "<init>" ∧ (parseMethodDescriptor (xnm 165).desc).map (fun d => d.parameters.length) = some 1 := by decide +kernel
theorem cw_166 : xcw 166 = Cond.code (xnm 166) cJ5_charAt_5068e 5 (some .char) := rfl
theorem cm_166 : xcw 166 ∈ xWds := xW1 (List.mem_of_getElem? (i := 854) (by decide +kernel)) (by decide +kernel)
theorem ini_166 : Cond.initialized (xnm 166).cls ∈ xWds := xW1 (List.mem_of_getElem? (i := 26) (by decide +kernel)) (by decide +kernel)
theorem in_166 : Cond.instanceMethod (xnm 166) ∈ xWds := xW1 (List.mem_of_getElem? (i := 853) (by decide +kernel)) (by decide +kernel)
theorem nm_166 : (xnm 166).cls ≠ "java/lang/invoke/MethodHandle" ∧ (xnm 166).cls ≠ "java/lang/invoke/VarHandle" ∧ (parseMethodDescriptor (xnm 166).desc).map (fun d => d.parameters.length) = some 1 := by decide +kernel
theorem ns_166 : (xnm 166).name ≠ "<init>" ∧ (parseMethodDescriptor (xnm 166).desc).map (fun d => d.parameters.length) = some 1 := by decide +kernel
theorem cw_167 : xcw 167 = Cond.code (xnm 167) cJ5_ensureCapacityInternal_d00df 3 none := rfl
theorem cm_167 : xcw 167 ∈ xWds := xW1 (List.mem_of_getElem? (i := 702) (by decide +kernel)) (by decide +kernel)
theorem ini_167 : Cond.initialized (xnm 167).cls ∈ xWds := xW1 (List.mem_of_getElem? (i := 26) (by decide +kernel)) (by decide +kernel)
theorem in_167 : Cond.instanceMethod (xnm 167) ∈ xWds := xW1 (List.mem_of_getElem? (i := 701) (by decide +kernel)) (by decide +kernel)
theorem nm_167 : (xnm 167).cls ≠ "java/lang/invoke/MethodHandle" ∧ (xnm 167).cls ≠ "java/lang/invoke/VarHandle" ∧ (parseMethodDescriptor (xnm 167).desc).map (fun d => d.parameters.length) = some 1 := by decide +kernel
theorem ns_167 : (xnm 167).name ≠ "<init>" ∧ (parseMethodDescriptor (xnm 167).desc).map (fun d => d.parameters.length) = some 1 := by decide +kernel
theorem cw_168 : xcw 168 = Cond.code (xnm 168) cJ5_init_d00df 2 none := rfl
theorem cm_168 : xcw 168 ∈ xWds := xW1 (List.mem_of_getElem? (i := 665) (by decide +kernel)) (by decide +kernel)
theorem ini_168 : Cond.initialized (xnm 168).cls ∈ xWds := xW1 (List.mem_of_getElem? (i := 26) (by decide +kernel)) (by decide +kernel)
theorem in_168 : Cond.instanceMethod (xnm 168) ∈ xWds := xW1 (List.mem_of_getElem? (i := 664) (by decide +kernel)) (by decide +kernel)
theorem nm_168 : (xnm 168).cls ≠ "java/lang/invoke/MethodHandle" ∧ (xnm 168).cls ≠ "java/lang/invoke/VarHandle" ∧ (parseMethodDescriptor (xnm 168).desc).map (fun d => d.parameters.length) = some 1 := by decide +kernel
theorem cw_169 : xcw 169 = Cond.code (xnm 169) cJ5_inflateIfNeededFor_a7421 2 none := rfl
theorem cm_169 : xcw 169 ∈ xWds := xW1 (List.mem_of_getElem? (i := 766) (by decide +kernel)) (by decide +kernel)
theorem ini_169 : Cond.initialized (xnm 169).cls ∈ xWds := xW1 (List.mem_of_getElem? (i := 26) (by decide +kernel)) (by decide +kernel)
theorem in_169 : Cond.instanceMethod (xnm 169) ∈ xWds := xW1 (List.mem_of_getElem? (i := 765) (by decide +kernel)) (by decide +kernel)
theorem nm_169 : (xnm 169).cls ≠ "java/lang/invoke/MethodHandle" ∧ (xnm 169).cls ≠ "java/lang/invoke/VarHandle" ∧ (parseMethodDescriptor (xnm 169).desc).map (fun d => d.parameters.length) = some 1 := by decide +kernel
theorem ns_169 : (xnm 169).name ≠ "<init>" ∧ (parseMethodDescriptor (xnm 169).desc).map (fun d => d.parameters.length) = some 1 := by decide +kernel
theorem cw_170 : xcw 170 = Cond.code (xnm 170) cJ5_isLatin1_aae02 1 (some .boolean) := rfl
theorem cm_170 : xcw 170 ∈ xWds := xW1 (List.mem_of_getElem? (i := 723) (by decide +kernel)) (by decide +kernel)
theorem ini_170 : Cond.initialized (xnm 170).cls ∈ xWds := xW1 (List.mem_of_getElem? (i := 26) (by decide +kernel)) (by decide +kernel)
theorem in_170 : Cond.instanceMethod (xnm 170) ∈ xWds := xW1 (List.mem_of_getElem? (i := 720) (by decide +kernel)) (by decide +kernel)
theorem nm_170 : (xnm 170).cls ≠ "java/lang/invoke/MethodHandle" ∧ (xnm 170).cls ≠ "java/lang/invoke/VarHandle" ∧ (parseMethodDescriptor (xnm 170).desc).map (fun d => d.parameters.length) = some 0 := by decide +kernel
theorem ns_170 : (xnm 170).name ≠ "<init>" ∧ (parseMethodDescriptor (xnm 170).desc).map (fun d => d.parameters.length) = some 0 := by decide +kernel
theorem cw_171 : xcw 171 = Cond.code (xnm 171) cJ5_length_8abf5 1 (some .int) := rfl
theorem cm_171 : xcw 171 ∈ xWds := xW1 (List.mem_of_getElem? (i := 847) (by decide +kernel)) (by decide +kernel)
theorem ini_171 : Cond.initialized (xnm 171).cls ∈ xWds := xW1 (List.mem_of_getElem? (i := 26) (by decide +kernel)) (by decide +kernel)
theorem in_171 : Cond.instanceMethod (xnm 171) ∈ xWds := xW1 (List.mem_of_getElem? (i := 846) (by decide +kernel)) (by decide +kernel)
theorem nm_171 : (xnm 171).cls ≠ "java/lang/invoke/MethodHandle" ∧ (xnm 171).cls ≠ "java/lang/invoke/VarHandle" ∧ (parseMethodDescriptor (xnm 171).desc).map (fun d => d.parameters.length) = some 0 := by decide +kernel
theorem ns_171 : (xnm 171).name ≠ "<init>" ∧ (parseMethodDescriptor (xnm 171).desc).map (fun d => d.parameters.length) = some 0 := by decide +kernel
theorem cw_172 : xcw 172 = Cond.code (xnm 172) cJ5_newCapacity_0f7a4 6 (some .int) := rfl
theorem cm_172 : xcw 172 ∈ xWds := xW1 (List.mem_of_getElem? (i := 706) (by decide +kernel)) (by decide +kernel)
theorem ini_172 : Cond.initialized (xnm 172).cls ∈ xWds := xW1 (List.mem_of_getElem? (i := 26) (by decide +kernel)) (by decide +kernel)
theorem in_172 : Cond.instanceMethod (xnm 172) ∈ xWds := xW1 (List.mem_of_getElem? (i := 705) (by decide +kernel)) (by decide +kernel)
theorem nm_172 : (xnm 172).cls ≠ "java/lang/invoke/MethodHandle" ∧ (xnm 172).cls ≠ "java/lang/invoke/VarHandle" ∧ (parseMethodDescriptor (xnm 172).desc).map (fun d => d.parameters.length) = some 1 := by decide +kernel
theorem ns_172 : (xnm 172).name ≠ "<init>" ∧ (parseMethodDescriptor (xnm 172).desc).map (fun d => d.parameters.length) = some 1 := by decide +kernel
theorem cw_173 : xcw 173 = Cond.code (xnm 173) cJ5_putStringAt_47b60 3 none := rfl
theorem cm_173 : xcw 173 ∈ xWds := xW1 (List.mem_of_getElem? (i := 762) (by decide +kernel)) (by decide +kernel)
theorem ini_173 : Cond.initialized (xnm 173).cls ∈ xWds := xW1 (List.mem_of_getElem? (i := 26) (by decide +kernel)) (by decide +kernel)
theorem in_173 : Cond.instanceMethod (xnm 173) ∈ xWds := xW1 (List.mem_of_getElem? (i := 761) (by decide +kernel)) (by decide +kernel)
theorem nm_173 : (xnm 173).cls ≠ "java/lang/invoke/MethodHandle" ∧ (xnm 173).cls ≠ "java/lang/invoke/VarHandle" ∧ (parseMethodDescriptor (xnm 173).desc).map (fun d => d.parameters.length) = some 2 := by decide +kernel
theorem ns_173 : (xnm 173).name ≠ "<init>" ∧ (parseMethodDescriptor (xnm 173).desc).map (fun d => d.parameters.length) = some 2 := by decide +kernel
theorem cw_174 : xcw 174 = Cond.code (xnm 174) cJ6_getChars_ba4f3 7 (some .int) := rfl
theorem cm_174 : xcw 174 ∈ xWds := xW1 (List.mem_of_getElem? (i := 825) (by decide +kernel)) (by decide +kernel)
theorem ini_174 : Cond.initialized (xnm 174).cls ∈ xWds := xW1 (List.mem_of_getElem? (i := 32) (by decide +kernel)) (by decide +kernel)
theorem st_174 : Cond.static (xnm 174) ∈ xWds := xW1 (List.mem_of_getElem? (i := 824) (by decide +kernel)) (by decide +kernel)
theorem nm_174 : (xnm 174).cls ≠ "java/lang/invoke/MethodHandle" ∧ (xnm 174).cls ≠ "java/lang/invoke/VarHandle" ∧ (parseMethodDescriptor (xnm 174).desc).map (fun d => d.parameters.length) = some 3 := by decide +kernel
theorem ns_174 : (xnm 174).name ≠ "<init>" ∧ (parseMethodDescriptor (xnm 174).desc).map (fun d => d.parameters.length) = some 3 := by decide +kernel
theorem cw_175 : xcw 175 = Cond.code (xnm 175) cJ6_stringSize_0f7a4 4 (some .int) := rfl
theorem cm_175 : xcw 175 ∈ xWds := xW1 (List.mem_of_getElem? (i := 822) (by decide +kernel)) (by decide +kernel)
theorem ini_175 : Cond.initialized (xnm 175).cls ∈ xWds := xW1 (List.mem_of_getElem? (i := 32) (by decide +kernel)) (by decide +kernel)
theorem st_175 : Cond.static (xnm 175) ∈ xWds := xW1 (List.mem_of_getElem? (i := 821) (by decide +kernel)) (by decide +kernel)
theorem nm_175 : (xnm 175).cls ≠ "java/lang/invoke/MethodHandle" ∧ (xnm 175).cls ≠ "java/lang/invoke/VarHandle" ∧ (parseMethodDescriptor (xnm 175).desc).map (fun d => d.parameters.length) = some 1 := by decide +kernel
theorem ns_175 : (xnm 175).name ≠ "<init>" ∧ (parseMethodDescriptor (xnm 175).desc).map (fun d => d.parameters.length) = some 1 := by decide +kernel
theorem cw_176 : xcw 176 = Cond.code (xnm 176) cJ7_copyOf_1904c 2 (some (.array (.object "java/lang/Object"))) := rfl
theorem cm_176 : xcw 176 ∈ xWds := xW1 (List.mem_of_getElem? (i := 301) (by decide +kernel)) (by decide +kernel)
theorem ini_176 : Cond.initialized (xnm 176).cls ∈ xWds := xW1 (List.mem_of_getElem? (i := 17) (by decide +kernel)) (by decide +kernel)
theorem st_176 : Cond.static (xnm 176) ∈ xWds := xW1 (List.mem_of_getElem? (i := 300) (by decide +kernel)) (by decide +kernel)
theorem nm_176 : (xnm 176).cls ≠ "java/lang/invoke/MethodHandle" ∧ (xnm 176).cls ≠ "java/lang/invoke/VarHandle" ∧ (parseMethodDescriptor (xnm 176).desc).map (fun d => d.parameters.length) = some 2 := by decide +kernel
theorem ns_176 : (xnm 176).name ≠ "<init>" ∧ (parseMethodDescriptor (xnm 176).desc).map (fun d => d.parameters.length) = some 2 := by decide +kernel
theorem cw_177 : xcw 177 = Cond.code (xnm 177) cJ7_copyOf_6403c 4 (some (.array (.object "java/lang/Object"))) := rfl
theorem cm_177 : xcw 177 ∈ xWds := xW1 (List.mem_of_getElem? (i := 325) (by decide +kernel)) (by decide +kernel)
theorem ini_177 : Cond.initialized (xnm 177).cls ∈ xWds := xW1 (List.mem_of_getElem? (i := 17) (by decide +kernel)) (by decide +kernel)
theorem st_177 : Cond.static (xnm 177) ∈ xWds := xW1 (List.mem_of_getElem? (i := 324) (by decide +kernel)) (by decide +kernel)
theorem nm_177 : (xnm 177).cls ≠ "java/lang/invoke/MethodHandle" ∧ (xnm 177).cls ≠ "java/lang/invoke/VarHandle" ∧ (parseMethodDescriptor (xnm 177).desc).map (fun d => d.parameters.length) = some 3 := by decide +kernel
theorem ns_177 : (xnm 177).name ≠ "<init>" ∧ (parseMethodDescriptor (xnm 177).desc).map (fun d => d.parameters.length) = some 3 := by decide +kernel
theorem cw_178 : xcw 178 = Cond.code (xnm 178) cJ7_copyOf_9075b 3 (some (.array .byte)) := rfl
theorem cm_178 : xcw 178 ∈ xWds := xW1 (List.mem_of_getElem? (i := 711) (by decide +kernel)) (by decide +kernel)
theorem ini_178 : Cond.initialized (xnm 178).cls ∈ xWds := xW1 (List.mem_of_getElem? (i := 17) (by decide +kernel)) (by decide +kernel)
theorem st_178 : Cond.static (xnm 178) ∈ xWds := xW1 (List.mem_of_getElem? (i := 710) (by decide +kernel)) (by decide +kernel)
theorem nm_178 : (xnm 178).cls ≠ "java/lang/invoke/MethodHandle" ∧ (xnm 178).cls ≠ "java/lang/invoke/VarHandle" ∧ (parseMethodDescriptor (xnm 178).desc).map (fun d => d.parameters.length) = some 2 := by decide +kernel
theorem ns_178 : (xnm 178).name ≠ "<init>" ∧ (parseMethodDescriptor (xnm 178).desc).map (fun d => d.parameters.length) = some 2 := by decide +kernel
theorem cw_179 : xcw 179 = Cond.code (xnm 179) cJ8_newLength_cabcc 4 (some .int) := rfl
theorem cm_179 : xcw 179 ∈ xWds := xW1 (List.mem_of_getElem? (i := 291) (by decide +kernel)) (by decide +kernel)
theorem ini_179 : Cond.initialized (xnm 179).cls ∈ xWds := xW1 (List.mem_of_getElem? (i := 15) (by decide +kernel)) (by decide +kernel)
theorem st_179 : Cond.static (xnm 179) ∈ xWds := xW1 (List.mem_of_getElem? (i := 290) (by decide +kernel)) (by decide +kernel)
theorem nm_179 : (xnm 179).cls ≠ "java/lang/invoke/MethodHandle" ∧ (xnm 179).cls ≠ "java/lang/invoke/VarHandle" ∧ (parseMethodDescriptor (xnm 179).desc).map (fun d => d.parameters.length) = some 3 := by decide +kernel
theorem ns_179 : (xnm 179).name ≠ "<init>" ∧ (parseMethodDescriptor (xnm 179).desc).map (fun d => d.parameters.length) = some 3 := by decide +kernel
theorem cw_180 : xcw 180 = Cond.code (xnm 180) cJx4a65c_add_72be8 4 none := rfl
theorem cm_180 : xcw 180 ∈ xWds := xW1 (List.mem_of_getElem? (i := 280) (by decide +kernel)) (by decide +kernel)
theorem ini_180 : Cond.initialized (xnm 180).cls ∈ xWds := xW1 (List.mem_of_getElem? (i := 4) (by decide +kernel)) (by decide +kernel)
theorem in_180 : Cond.instanceMethod (xnm 180) ∈ xWds := xW1 (List.mem_of_getElem? (i := 279) (by decide +kernel)) (by decide +kernel)
theorem sel_180 : Cond.selects (xnm 180).cls (xnm 180) (xnm 180) ∈ xWds := xWds_in (List.mem_append_left _ (List.mem_of_getElem? (i := 1) (by decide +kernel))) (by decide +kernel)
theorem nm_180 : (xnm 180).cls ≠ "java/lang/invoke/MethodHandle" ∧ (xnm 180).cls ≠ "java/lang/invoke/VarHandle" ∧ (parseMethodDescriptor (xnm 180).desc).map (fun d => d.parameters.length) = some 3 := by decide +kernel
theorem ns_180 : (xnm 180).name ≠ "<init>" ∧ (parseMethodDescriptor (xnm 180).desc).map (fun d => d.parameters.length) = some 3 := by decide +kernel
theorem cw_181 : xcw 181 = Cond.code (xnm 181) cJx4a65c_add_9ea2d 2 (some .boolean) := rfl
theorem cm_181 : xcw 181 ∈ xWds := xW1 (List.mem_of_getElem? (i := 276) (by decide +kernel)) (by decide +kernel)
theorem ini_181 : Cond.initialized (xnm 181).cls ∈ xWds := xW1 (List.mem_of_getElem? (i := 4) (by decide +kernel)) (by decide +kernel)
theorem in_181 : Cond.instanceMethod (xnm 181) ∈ xWds := xW1 (List.mem_of_getElem? (i := 274) (by decide +kernel)) (by decide +kernel)
theorem sel_181 : Cond.selects (xnm 181).cls (xnm 181) (xnm 181) ∈ xWds := xW1 (List.mem_of_getElem? (i := 275) (by decide +kernel)) (by decide +kernel)
theorem nm_181 : (xnm 181).cls ≠ "java/lang/invoke/MethodHandle" ∧ (xnm 181).cls ≠ "java/lang/invoke/VarHandle" ∧ (parseMethodDescriptor (xnm 181).desc).map (fun d => d.parameters.length) = some 1 := by decide +kernel
theorem ns_181 : (xnm 181).name ≠ "<init>" ∧ (parseMethodDescriptor (xnm 181).desc).map (fun d => d.parameters.length) = some 1 := by decide +kernel
theorem cw_182 : xcw 182 = Cond.code (xnm 182) cJx4a65c_elementData_915e3 2 (some (.object "java/lang/Object")) := rfl
theorem cm_182 : xcw 182 ∈ xWds := xW1 (List.mem_of_getElem? (i := 396) (by decide +kernel)) (by decide +kernel)
theorem ini_182 : Cond.initialized (xnm 182).cls ∈ xWds := xW1 (List.mem_of_getElem? (i := 4) (by decide +kernel)) (by decide +kernel)
theorem in_182 : Cond.instanceMethod (xnm 182) ∈ xWds := xW1 (List.mem_of_getElem? (i := 394) (by decide +kernel)) (by decide +kernel)
theorem sel_182 : Cond.selects (xnm 182).cls (xnm 182) (xnm 182) ∈ xWds := xW1 (List.mem_of_getElem? (i := 395) (by decide +kernel)) (by decide +kernel)
theorem nm_182 : (xnm 182).cls ≠ "java/lang/invoke/MethodHandle" ∧ (xnm 182).cls ≠ "java/lang/invoke/VarHandle" ∧ (parseMethodDescriptor (xnm 182).desc).map (fun d => d.parameters.length) = some 1 := by decide +kernel
theorem ns_182 : (xnm 182).name ≠ "<init>" ∧ (parseMethodDescriptor (xnm 182).desc).map (fun d => d.parameters.length) = some 1 := by decide +kernel
theorem cw_183 : xcw 183 = Cond.code (xnm 183) cJx4a65c_fastRemove_b59b0 4 none := rfl
theorem cm_183 : xcw 183 ∈ xWds := xW1 (List.mem_of_getElem? (i := 592) (by decide +kernel)) (by decide +kernel)
theorem ini_183 : Cond.initialized (xnm 183).cls ∈ xWds := xW1 (List.mem_of_getElem? (i := 4) (by decide +kernel)) (by decide +kernel)
theorem in_183 : Cond.instanceMethod (xnm 183) ∈ xWds := xW1 (List.mem_of_getElem? (i := 591) (by decide +kernel)) (by decide +kernel)
theorem sel_183 : Cond.selects (xnm 183).cls (xnm 183) (xnm 183) ∈ xWds := xWds_in (List.mem_append_left _ (List.mem_of_getElem? (i := 8) (by decide +kernel))) (by decide +kernel)
theorem nm_183 : (xnm 183).cls ≠ "java/lang/invoke/MethodHandle" ∧ (xnm 183).cls ≠ "java/lang/invoke/VarHandle" ∧ (parseMethodDescriptor (xnm 183).desc).map (fun d => d.parameters.length) = some 2 := by decide +kernel
theorem ns_183 : (xnm 183).name ≠ "<init>" ∧ (parseMethodDescriptor (xnm 183).desc).map (fun d => d.parameters.length) = some 2 := by decide +kernel
theorem cw_184 : xcw 184 = Cond.code (xnm 184) cJx4a65c_get_915e3 2 (some (.object "java/lang/Object")) := rfl
theorem cm_184 : xcw 184 ∈ xWds := xW1 (List.mem_of_getElem? (i := 386) (by decide +kernel)) (by decide +kernel)
theorem ini_184 : Cond.initialized (xnm 184).cls ∈ xWds := xW1 (List.mem_of_getElem? (i := 4) (by decide +kernel)) (by decide +kernel)
theorem in_184 : Cond.instanceMethod (xnm 184) ∈ xWds := xW1 (List.mem_of_getElem? (i := 384) (by decide +kernel)) (by decide +kernel)
theorem sel_184 : Cond.selects (xnm 184).cls (xnm 184) (xnm 184) ∈ xWds := xW1 (List.mem_of_getElem? (i := 385) (by decide +kernel)) (by decide +kernel)
theorem nm_184 : (xnm 184).cls ≠ "java/lang/invoke/MethodHandle" ∧ (xnm 184).cls ≠ "java/lang/invoke/VarHandle" ∧ (parseMethodDescriptor (xnm 184).desc).map (fun d => d.parameters.length) = some 1 := by decide +kernel
theorem ns_184 : (xnm 184).name ≠ "<init>" ∧ (parseMethodDescriptor (xnm 184).desc).map (fun d => d.parameters.length) = some 1 := by decide +kernel
theorem cw_185 : xcw 185 = Cond.code (xnm 185) cJx4a65c_grow_92f84 4 (some (.array (.object "java/lang/Object"))) := rfl
theorem cm_185 : xcw 185 ∈ xWds := xW1 (List.mem_of_getElem? (i := 288) (by decide +kernel)) (by decide +kernel)
theorem ini_185 : Cond.initialized (xnm 185).cls ∈ xWds := xW1 (List.mem_of_getElem? (i := 4) (by decide +kernel)) (by decide +kernel)
theorem in_185 : Cond.instanceMethod (xnm 185) ∈ xWds := xW1 (List.mem_of_getElem? (i := 287) (by decide +kernel)) (by decide +kernel)
theorem sel_185 : Cond.selects (xnm 185).cls (xnm 185) (xnm 185) ∈ xWds := xWds_in (List.mem_append_left _ (List.mem_of_getElem? (i := 3) (by decide +kernel))) (by decide +kernel)
theorem nm_185 : (xnm 185).cls ≠ "java/lang/invoke/MethodHandle" ∧ (xnm 185).cls ≠ "java/lang/invoke/VarHandle" ∧ (parseMethodDescriptor (xnm 185).desc).map (fun d => d.parameters.length) = some 1 := by decide +kernel
theorem ns_185 : (xnm 185).name ≠ "<init>" ∧ (parseMethodDescriptor (xnm 185).desc).map (fun d => d.parameters.length) = some 1 := by decide +kernel
theorem cw_186 : xcw 186 = Cond.code (xnm 186) cJx4a65c_grow_d5877 1 (some (.array (.object "java/lang/Object"))) := rfl
theorem cm_186 : xcw 186 ∈ xWds := xW1 (List.mem_of_getElem? (i := 284) (by decide +kernel)) (by decide +kernel)
theorem ini_186 : Cond.initialized (xnm 186).cls ∈ xWds := xW1 (List.mem_of_getElem? (i := 4) (by decide +kernel)) (by decide +kernel)
theorem in_186 : Cond.instanceMethod (xnm 186) ∈ xWds := xW1 (List.mem_of_getElem? (i := 283) (by decide +kernel)) (by decide +kernel)
theorem sel_186 : Cond.selects (xnm 186).cls (xnm 186) (xnm 186) ∈ xWds := xWds_in (List.mem_append_left _ (List.mem_of_getElem? (i := 2) (by decide +kernel))) (by decide +kernel)
theorem nm_186 : (xnm 186).cls ≠ "java/lang/invoke/MethodHandle" ∧ (xnm 186).cls ≠ "java/lang/invoke/VarHandle" ∧ (parseMethodDescriptor (xnm 186).desc).map (fun d => d.parameters.length) = some 0 := by decide +kernel
theorem ns_186 : (xnm 186).name ≠ "<init>" ∧ (parseMethodDescriptor (xnm 186).desc).map (fun d => d.parameters.length) = some 0 := by decide +kernel
theorem cw_187 : xcw 187 = Cond.code (xnm 187) cJx4a65c_init_da8c8 1 none := rfl
theorem cm_187 : xcw 187 ∈ xWds := xW1 (List.mem_of_getElem? (i := 48) (by decide +kernel)) (by decide +kernel)
theorem ini_187 : Cond.initialized (xnm 187).cls ∈ xWds := xW1 (List.mem_of_getElem? (i := 4) (by decide +kernel)) (by decide +kernel)
theorem in_187 : Cond.instanceMethod (xnm 187) ∈ xWds := xW1 (List.mem_of_getElem? (i := 47) (by decide +kernel)) (by decide +kernel)
theorem nm_187 : (xnm 187).cls ≠ "java/lang/invoke/MethodHandle" ∧ (xnm 187).cls ≠ "java/lang/invoke/VarHandle" ∧ (parseMethodDescriptor (xnm 187).desc).map (fun d => d.parameters.length) = some 0 := by decide +kernel
theorem cw_188 : xcw 188 = Cond.code (xnm 188) cJx4a65c_isEmpty_aae02 1 (some .boolean) := rfl
theorem cm_188 : xcw 188 ∈ xWds := xW1 (List.mem_of_getElem? (i := 1107) (by decide +kernel)) (by decide +kernel)
theorem ini_188 : Cond.initialized (xnm 188).cls ∈ xWds := xW1 (List.mem_of_getElem? (i := 4) (by decide +kernel)) (by decide +kernel)
theorem in_188 : Cond.instanceMethod (xnm 188) ∈ xWds := xW1 (List.mem_of_getElem? (i := 1105) (by decide +kernel)) (by decide +kernel)
theorem sel_188 : Cond.selects (xnm 188).cls (xnm 188) (xnm 188) ∈ xWds := xW1 (List.mem_of_getElem? (i := 1106) (by decide +kernel)) (by decide +kernel)
theorem nm_188 : (xnm 188).cls ≠ "java/lang/invoke/MethodHandle" ∧ (xnm 188).cls ≠ "java/lang/invoke/VarHandle" ∧ (parseMethodDescriptor (xnm 188).desc).map (fun d => d.parameters.length) = some 0 := by decide +kernel
theorem ns_188 : (xnm 188).name ≠ "<init>" ∧ (parseMethodDescriptor (xnm 188).desc).map (fun d => d.parameters.length) = some 0 := by decide +kernel
theorem cw_189 : xcw 189 = Cond.code (xnm 189) cJx4a65c_remove_915e3 4 (some (.object "java/lang/Object")) := rfl
theorem cm_189 : xcw 189 ∈ xWds := xW1 (List.mem_of_getElem? (i := 588) (by decide +kernel)) (by decide +kernel)
theorem ini_189 : Cond.initialized (xnm 189).cls ∈ xWds := xW1 (List.mem_of_getElem? (i := 4) (by decide +kernel)) (by decide +kernel)
theorem in_189 : Cond.instanceMethod (xnm 189) ∈ xWds := xW1 (List.mem_of_getElem? (i := 586) (by decide +kernel)) (by decide +kernel)
theorem sel_189 : Cond.selects (xnm 189).cls (xnm 189) (xnm 189) ∈ xWds := xW1 (List.mem_of_getElem? (i := 587) (by decide +kernel)) (by decide +kernel)
theorem nm_189 : (xnm 189).cls ≠ "java/lang/invoke/MethodHandle" ∧ (xnm 189).cls ≠ "java/lang/invoke/VarHandle" ∧ (parseMethodDescriptor (xnm 189).desc).map (fun d => d.parameters.length) = some 1 := by decide +kernel
theorem ns_189 : (xnm 189).name ≠ "<init>" ∧ (parseMethodDescriptor (xnm 189).desc).map (fun d => d.parameters.length) = some 1 := by decide +kernel
theorem cw_190 : xcw 190 = Cond.code (xnm 190) cJx4a65c_size_8abf5 1 (some .int) := rfl
theorem cm_190 : xcw 190 ∈ xWds := xW1 (List.mem_of_getElem? (i := 229) (by decide +kernel)) (by decide +kernel)
theorem ini_190 : Cond.initialized (xnm 190).cls ∈ xWds := xW1 (List.mem_of_getElem? (i := 4) (by decide +kernel)) (by decide +kernel)
theorem in_190 : Cond.instanceMethod (xnm 190) ∈ xWds := xW1 (List.mem_of_getElem? (i := 227) (by decide +kernel)) (by decide +kernel)
theorem sel_190 : Cond.selects (xnm 190).cls (xnm 190) (xnm 190) ∈ xWds := xW1 (List.mem_of_getElem? (i := 228) (by decide +kernel)) (by decide +kernel)
theorem nm_190 : (xnm 190).cls ≠ "java/lang/invoke/MethodHandle" ∧ (xnm 190).cls ≠ "java/lang/invoke/VarHandle" ∧ (parseMethodDescriptor (xnm 190).desc).map (fun d => d.parameters.length) = some 0 := by decide +kernel
theorem ns_190 : (xnm 190).name ≠ "<init>" ∧ (parseMethodDescriptor (xnm 190).desc).map (fun d => d.parameters.length) = some 0 := by decide +kernel
theorem cw_191 : xcw 191 = Cond.code (xnm 191) cJxa1e45_init_da8c8 1 none := rfl
theorem cm_191 : xcw 191 ∈ xWds := xW1 (List.mem_of_getElem? (i := 54) (by decide +kernel)) (by decide +kernel)
theorem ini_191 : Cond.initialized (xnm 191).cls ∈ xWds := xW1 (List.mem_of_getElem? (i := 2) (by decide +kernel)) (by decide +kernel)
theorem in_191 : Cond.instanceMethod (xnm 191) ∈ xWds := xW1 (List.mem_of_getElem? (i := 53) (by decide +kernel)) (by decide +kernel)
theorem nm_191 : (xnm 191).cls ≠ "java/lang/invoke/MethodHandle" ∧ (xnm 191).cls ≠ "java/lang/invoke/VarHandle" ∧ (parseMethodDescriptor (xnm 191).desc).map (fun d => d.parameters.length) = some 0 := by decide +kernel
theorem cw_192 : xcw 192 = Cond.code (xnm 192) cJxc12de_init_da8c8 1 none := rfl
theorem cm_192 : xcw 192 ∈ xWds := xW1 (List.mem_of_getElem? (i := 51) (by decide +kernel)) (by decide +kernel)
theorem ini_192 : Cond.initialized (xnm 192).cls ∈ xWds := xW1 (List.mem_of_getElem? (i := 3) (by decide +kernel)) (by decide +kernel)
theorem in_192 : Cond.instanceMethod (xnm 192) ∈ xWds := xW1 (List.mem_of_getElem? (i := 50) (by decide +kernel)) (by decide +kernel)
theorem nm_192 : (xnm 192).cls ≠ "java/lang/invoke/MethodHandle" ∧ (xnm 192).cls ≠ "java/lang/invoke/VarHandle" ∧ (parseMethodDescriptor (xnm 192).desc).map (fun d => d.parameters.length) = some 0 := by decide +kernel
