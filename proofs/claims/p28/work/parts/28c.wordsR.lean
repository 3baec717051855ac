/-! the same: the longest of the law's methods (printed by wip/gen/gen31.py) -/
theorem cm_141 : xcw 141 ∈ xWds := xW1 (List.mem_of_getElem? (i := 1051) (by decide +kernel)) (by decide +kernel)
