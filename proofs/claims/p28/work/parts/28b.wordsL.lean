/-! the same, of the law's methods (printed by wip/gen/gen31.py) -/
theorem cw_136 : xcw 136 = Cond.code (xnm 136) cL_dice 2 (some .int) := rfl
theorem cm_136 : xcw 136 ∈ xWds := xW1 (List.mem_of_getElem? (i := 312) (by decide +kernel)) (by decide +kernel)
theorem ini_136 : Cond.initialized (xnm 136).cls ∈ xWds := xW1 (List.mem_of_getElem? (i := 0) (by decide +kernel)) (by decide +kernel)
theorem st_136 : Cond.static (xnm 136) ∈ xWds := xW1 (List.mem_of_getElem? (i := 311) (by decide +kernel)) (by decide +kernel)
theorem nm_136 : (xnm 136).cls ≠ "java/lang/invoke/MethodHandle" ∧ (xnm 136).cls ≠ "java/lang/invoke/VarHandle" ∧ (parseMethodDescriptor (xnm 136).desc).map (fun d => d.parameters.length) = some 2 := by decide +kernel
theorem ns_136 : (xnm 136).name ≠ "<init>" ∧ (parseMethodDescriptor (xnm 136).desc).map (fun d => d.parameters.length) = some 2 := by decide +kernel
theorem cw_137 : xcw 137 = Cond.code (xnm 137) cL_warms 3 (some .int) := rfl
theorem cm_137 : xcw 137 ∈ xWds := xW1 (List.mem_of_getElem? (i := 444) (by decide +kernel)) (by decide +kernel)
theorem ini_137 : Cond.initialized (xnm 137).cls ∈ xWds := xW1 (List.mem_of_getElem? (i := 0) (by decide +kernel)) (by decide +kernel)
theorem st_137 : Cond.static (xnm 137) ∈ xWds := xW1 (List.mem_of_getElem? (i := 443) (by decide +kernel)) (by decide +kernel)
theorem nm_137 : (xnm 137).cls ≠ "java/lang/invoke/MethodHandle" ∧ (xnm 137).cls ≠ "java/lang/invoke/VarHandle" ∧ (parseMethodDescriptor (xnm 137).desc).map (fun d => d.parameters.length) = some 3 := by decide +kernel
theorem ns_137 : (xnm 137).name ≠ "<init>" ∧ (parseMethodDescriptor (xnm 137).desc).map (fun d => d.parameters.length) = some 3 := by decide +kernel
theorem cw_138 : xcw 138 = Cond.codeWith (xnm 138) cL_act 8 (some .int) [(0, 352, 353, 90), (0, 352, 358, 93), (0, 352, 363, 96)] := rfl
theorem ini_138 : Cond.initialized (xnm 138).cls ∈ xWds := xW1 (List.mem_of_getElem? (i := 0) (by decide +kernel)) (by decide +kernel)
theorem st_138 : Cond.static (xnm 138) ∈ xWds := xW1 (List.mem_of_getElem? (i := 316) (by decide +kernel)) (by decide +kernel)
theorem nm_138 : (xnm 138).cls ≠ "java/lang/invoke/MethodHandle" ∧ (xnm 138).cls ≠ "java/lang/invoke/VarHandle" ∧ (parseMethodDescriptor (xnm 138).desc).map (fun d => d.parameters.length) = some 7 := by decide +kernel
theorem ns_138 : (xnm 138).name ≠ "<init>" ∧ (parseMethodDescriptor (xnm 138).desc).map (fun d => d.parameters.length) = some 7 := by decide +kernel
theorem cw_139 : xcw 139 = Cond.codeWith (xnm 139) cL_paints 7 (some .int) [(0, 23, 24, 90), (0, 23, 29, 93), (0, 23, 34, 96)] := rfl
theorem ini_139 : Cond.initialized (xnm 139).cls ∈ xWds := xW1 (List.mem_of_getElem? (i := 0) (by decide +kernel)) (by decide +kernel)
theorem st_139 : Cond.static (xnm 139) ∈ xWds := xW1 (List.mem_of_getElem? (i := 1000) (by decide +kernel)) (by decide +kernel)
theorem nm_139 : (xnm 139).cls ≠ "java/lang/invoke/MethodHandle" ∧ (xnm 139).cls ≠ "java/lang/invoke/VarHandle" ∧ (parseMethodDescriptor (xnm 139).desc).map (fun d => d.parameters.length) = some 5 := by decide +kernel
theorem ns_139 : (xnm 139).name ≠ "<init>" ∧ (parseMethodDescriptor (xnm 139).desc).map (fun d => d.parameters.length) = some 5 := by decide +kernel
theorem cw_140 : xcw 140 = Cond.code (xnm 140) cL_all 7 (some .long) := rfl
theorem ini_140 : Cond.initialized (xnm 140).cls ∈ xWds := xW1 (List.mem_of_getElem? (i := 0) (by decide +kernel)) (by decide +kernel)
theorem st_140 : Cond.static (xnm 140) ∈ xWds := xW1 (List.mem_of_getElem? (i := 1054) (by decide +kernel)) (by decide +kernel)
theorem nm_140 : (xnm 140).cls ≠ "java/lang/invoke/MethodHandle" ∧ (xnm 140).cls ≠ "java/lang/invoke/VarHandle" ∧ (parseMethodDescriptor (xnm 140).desc).map (fun d => d.parameters.length) = some 3 := by decide +kernel
theorem ns_140 : (xnm 140).name ≠ "<init>" ∧ (parseMethodDescriptor (xnm 140).desc).map (fun d => d.parameters.length) = some 3 := by decide +kernel
theorem cw_141 : xcw 141 = Cond.code (xnm 141) cL_isRefused 17 (some .boolean) := rfl
theorem ini_141 : Cond.initialized (xnm 141).cls ∈ xWds := xW1 (List.mem_of_getElem? (i := 0) (by decide +kernel)) (by decide +kernel)
theorem st_141 : Cond.static (xnm 141) ∈ xWds := xW1 (List.mem_of_getElem? (i := 1050) (by decide +kernel)) (by decide +kernel)
theorem nm_141 : (xnm 141).cls ≠ "java/lang/invoke/MethodHandle" ∧ (xnm 141).cls ≠ "java/lang/invoke/VarHandle" ∧ (parseMethodDescriptor (xnm 141).desc).map (fun d => d.parameters.length) = some 5 := by decide +kernel
theorem ns_141 : (xnm 141).name ≠ "<init>" ∧ (parseMethodDescriptor (xnm 141).desc).map (fun d => d.parameters.length) = some 5 := by decide +kernel
theorem cw_142 : xcw 142 = Cond.code (xnm 142) cL_areSound 13 (some .boolean) := rfl
theorem ini_142 : Cond.initialized (xnm 142).cls ∈ xWds := xW1 (List.mem_of_getElem? (i := 0) (by decide +kernel)) (by decide +kernel)
theorem st_142 : Cond.static (xnm 142) ∈ xWds := xW1 (List.mem_of_getElem? (i := 1062) (by decide +kernel)) (by decide +kernel)
theorem nm_142 : (xnm 142).cls ≠ "java/lang/invoke/MethodHandle" ∧ (xnm 142).cls ≠ "java/lang/invoke/VarHandle" ∧ (parseMethodDescriptor (xnm 142).desc).map (fun d => d.parameters.length) = some 5 := by decide +kernel
theorem ns_142 : (xnm 142).name ≠ "<init>" ∧ (parseMethodDescriptor (xnm 142).desc).map (fun d => d.parameters.length) = some 5 := by decide +kernel
theorem cw_143 : xcw 143 = Cond.code (xnm 143) cL_isTextOf 9 (some .boolean) := rfl
theorem ini_143 : Cond.initialized (xnm 143).cls ∈ xWds := xW1 (List.mem_of_getElem? (i := 0) (by decide +kernel)) (by decide +kernel)
theorem st_143 : Cond.static (xnm 143) ∈ xWds := xW1 (List.mem_of_getElem? (i := 1065) (by decide +kernel)) (by decide +kernel)
theorem nm_143 : (xnm 143).cls ≠ "java/lang/invoke/MethodHandle" ∧ (xnm 143).cls ≠ "java/lang/invoke/VarHandle" ∧ (parseMethodDescriptor (xnm 143).desc).map (fun d => d.parameters.length) = some 4 := by decide +kernel
theorem ns_143 : (xnm 143).name ≠ "<init>" ∧ (parseMethodDescriptor (xnm 143).desc).map (fun d => d.parameters.length) = some 4 := by decide +kernel
theorem cw_144 : xcw 144 = Cond.code (xnm 144) cL_isMeasured 16 (some .boolean) := rfl
theorem ini_144 : Cond.initialized (xnm 144).cls ∈ xWds := xW1 (List.mem_of_getElem? (i := 0) (by decide +kernel)) (by decide +kernel)
theorem st_144 : Cond.static (xnm 144) ∈ xWds := xW1 (List.mem_of_getElem? (i := 1068) (by decide +kernel)) (by decide +kernel)
theorem nm_144 : (xnm 144).cls ≠ "java/lang/invoke/MethodHandle" ∧ (xnm 144).cls ≠ "java/lang/invoke/VarHandle" ∧ (parseMethodDescriptor (xnm 144).desc).map (fun d => d.parameters.length) = some 2 := by decide +kernel
theorem ns_144 : (xnm 144).name ≠ "<init>" ∧ (parseMethodDescriptor (xnm 144).desc).map (fun d => d.parameters.length) = some 2 := by decide +kernel
theorem cw_145 : xcw 145 = Cond.code (xnm 145) cL_isTold 10 (some .boolean) := rfl
theorem ini_145 : Cond.initialized (xnm 145).cls ∈ xWds := xW1 (List.mem_of_getElem? (i := 0) (by decide +kernel)) (by decide +kernel)
theorem st_145 : Cond.static (xnm 145) ∈ xWds := xW1 (List.mem_of_getElem? (i := 1073) (by decide +kernel)) (by decide +kernel)
theorem nm_145 : (xnm 145).cls ≠ "java/lang/invoke/MethodHandle" ∧ (xnm 145).cls ≠ "java/lang/invoke/VarHandle" ∧ (parseMethodDescriptor (xnm 145).desc).map (fun d => d.parameters.length) = some 2 := by decide +kernel
theorem ns_145 : (xnm 145).name ≠ "<init>" ∧ (parseMethodDescriptor (xnm 145).desc).map (fun d => d.parameters.length) = some 2 := by decide +kernel
theorem cw_146 : xcw 146 = Cond.code (xnm 146) cL_arePins 6 (some .boolean) := rfl
theorem cm_146 : xcw 146 ∈ xWds := xW1 (List.mem_of_getElem? (i := 1077) (by decide +kernel)) (by decide +kernel)
theorem ini_146 : Cond.initialized (xnm 146).cls ∈ xWds := xW1 (List.mem_of_getElem? (i := 0) (by decide +kernel)) (by decide +kernel)
theorem st_146 : Cond.static (xnm 146) ∈ xWds := xW1 (List.mem_of_getElem? (i := 1076) (by decide +kernel)) (by decide +kernel)
theorem nm_146 : (xnm 146).cls ≠ "java/lang/invoke/MethodHandle" ∧ (xnm 146).cls ≠ "java/lang/invoke/VarHandle" ∧ (parseMethodDescriptor (xnm 146).desc).map (fun d => d.parameters.length) = some 2 := by decide +kernel
theorem ns_146 : (xnm 146).name ≠ "<init>" ∧ (parseMethodDescriptor (xnm 146).desc).map (fun d => d.parameters.length) = some 2 := by decide +kernel
