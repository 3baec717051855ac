/-! the law: that its table is what the machine does (printed by wip/gen/gen51.py) -/
/-- how the law's pure end is its machine's end: with 1 -/
def xFl (b L : Nat) (xs : Nat → Int32) (sz0 : Nat) : xFn := fun R s args below meth Rr Q => args = #[.ref b] ∧ R = room_1 ∧ Q = lw_Z below args s ∧ meth.sig.returnType = ret ∧ s.heap.size ≤ sz0 ∧ va_X b L xs s s.heap ∧ b < s.heap.size ∧ ∀ r ah, Rr r ah → r = .inl (some (.int 1))
section
variable {l : Launch} {D : va_G} {dA : Nat → ClassId} {sz0 : Nat} {κ : Nat → Nat} {cc : ByteArray} {own : String} {nL : Nat} {hh : List (Nat × Nat × Nat × Nat)} {fr lo : Nat} {b L : Nat} {xs : Nat → Int32} {pc : Nat}
theorem sn_sld (hd : decode cc pc = .ok (.iaload, 1)) : xSnd l D dA sz0 κ cc own nL hh fr lo (xFl b L xs sz0) pc (oSld b L xs (pc + 1)) := by
  intro p e R s m args below meth c Q Rr P ls st ah k n C hfr hlo hFn hP h H locs Lc cells slots hH hS hL hk hn
  obtain ⟨hx, hb, hml, hown, hts, hIn, hst, hlk, htb⟩ := C
  obtain ⟨-, -, -, -, f1, f2, f3, -⟩ := hFn
  rcases st with _ | ⟨v, st⟩
  · exact False.elim h
  rcases st with _ | ⟨w, st⟩
  · cases v <;> exact False.elim h
  cases v <;> try (simp only [oSld, iC] at h; done)
  cases w <;> try (simp only [oSld, iC] at h; done)
  obtain ⟨⟨rfl, hin⟩, h⟩ := h
  exact va_sld hx hb f2 f3 (fun q => absurd q (by unfold xA; omega)) hS hin hd (hP _ h H locs Lc cells slots hH hS hL hk hn)
theorem sn_slen (hd : decode cc pc = .ok (.arraylength, 1)) : xSnd l D dA sz0 κ cc own nL hh fr lo (xFl b L xs sz0) pc (oSlen b L (pc + 1)) := by
  intro p e R s m args below meth c Q Rr P ls st ah k n C hfr hlo hFn hP h H locs Lc cells slots hH hS hL hk hn
  obtain ⟨hx, hb, hml, hown, hts, hIn, hst, hlk, htb⟩ := C
  obtain ⟨-, -, -, -, f1, f2, f3, -⟩ := hFn
  rcases st with _ | ⟨v, st⟩
  · exact False.elim h
  cases v <;> try (simp only [oSlen, iC] at h; done)
  obtain ⟨rfl, h⟩ := h
  exact va_slen hx hb f2 f3 (fun q => absurd q (by unfold xA; omega)) hS hd (hP _ h H locs Lc cells slots hH hS hL hk hn)
theorem sn_lawret (hd : decode code pc = .ok (.ireturn, 1)) : xSnd l D dA sz0 κ code own nL hh fr lo (xFl b L xs sz0) pc (oIr .int) := by
  intro p e R s m args below meth c Q Rr P ls st ah k n C hfr hlo hFn hP h H locs Lc cells slots hH hS hL hk hn
  obtain ⟨hx, hb, hml, hown, hts, hIn, hst, hlk, htb⟩ := C
  obtain ⟨rfl, rfl, rfl, hret, f1, f2, f3, f4⟩ := hFn
  rcases st with _ | ⟨v, st⟩
  · exact False.elim h
  rcases st with _ | ⟨w, st⟩
  rotate_left
  · cases v <;> exact False.elim h
  cases v <;> try (simp only [oIr, iR] at h; done)
  obtain ⟨hn0, h⟩ := h
  have h9 := f4 _ _ h
  cases h9
  refine W.widen (k := room_1.cells) (n := room_1.slots) (Nat.le_trans (Nat.le_add_right _ _) hk) (Nat.le_trans (Nat.le_add_right _ _) hn) (va_forget (fun q hq => Nat.le_trans f1 (hS.2.2 q hq)) ?_)
  exact W.base (lw_ret (d0 := s.drawn) (Drawn.sameBut.refl s.drawn lw_cs) hx hb hret hlk hd)
theorem sn_callOfL {gd : List Value → xH → Prop} {y na : Nat} (hr : xRunOK l D dA sz0 κ cc own nL [] fr lo gd y na pc) : xSnd l D dA sz0 κ cc own nL [] fr lo (xFl b L xs sz0) pc (iCall gd y na (xmc y) (xms y) (pc + 3)) := by
  intro p e R s m args below meth c Q Rr P ls st ah k n C hfr hlo hFn hP h H locs L cells slots hH hS hL hk hn
  obtain ⟨⟨ha, hsum, hg⟩, ⟨hk1, hn1⟩, Rc, hM, hK⟩ := h
  dsimp only at hk hn
  have hst : st = (st.take na).reverse.reverse ++ st.drop na := by rw [List.reverse_reverse, List.take_append_drop]
  have hrun := hr p e R s m args below meth c H locs L cells slots (st.take na).reverse (st.drop na) ah Rc C hfr hlo hH hS hL.1 (by omega) (by omega) hg (by rw [List.length_reverse, List.length_take]; omega) hsum hM
  rw [← hst] at hrun
  refine xCallW hrun hS (fun v ah' H1 locs1 hv hH1 hS1 => ?_) (fun j ah' H1 locs1 q ce hj hv hH1 hS1 hce hcv hcl => ?_)
  · have h9 := hK _ _ hv
    cases v with
    | none => exact hP _ h9 H1 locs1 L _ _ hH1 hS1 hL (by dsimp only; omega) (by dsimp only; omega)
    | some v => exact hP _ h9 H1 locs1 L _ _ hH1 hS1 hL (by dsimp only; omega) (by dsimp only; omega)
  · have h9 : Rr (.inr j) ah' := hK _ _ hv
    have := hFn.2.2.2.2.2.2.2 _ _ h9
    cases this
end
theorem w_1 : Cond.initialized "Stuccohand" ∈ xWds := xW1 (List.mem_of_getElem? (i := 1) (by decide +kernel)) (by decide +kernel)
theorem w_7 : Cond.initialized "StuccohandModel" ∈ xWds := xW1 (List.mem_of_getElem? (i := 7) (by decide +kernel)) (by decide +kernel)
theorem w_36 : Cond.classLink RL 8 "Stuccohand" ∈ xWds := xW1 (List.mem_of_getElem? (i := 36) (by decide +kernel)) (by decide +kernel)
theorem w_37 : Cond.instantiable "Stuccohand" 7 ∈ xWds := xW1 (List.mem_of_getElem? (i := 37) (by decide +kernel)) (by decide +kernel)
theorem w_38 : Cond.methodLink RL 99 (xnm 50) ∈ xWds := xW1 (List.mem_of_getElem? (i := 38) (by decide +kernel)) (by decide +kernel)
theorem w_126 : Cond.methodLink RL 190 (xnm 89) ∈ xWds := xW1 (List.mem_of_getElem? (i := 126) (by decide +kernel)) (by decide +kernel)
theorem w_146 : Cond.methodLink RL 103 (xnm 193) ∈ xWds := xW1 (List.mem_of_getElem? (i := 146) (by decide +kernel)) (by decide +kernel)
theorem w_346 : Cond.methodLink RL 113 (xnm 194) ∈ xWds := xW1 (List.mem_of_getElem? (i := 346) (by decide +kernel)) (by decide +kernel)
theorem w_355 : Cond.methodLink RL 117 (xnm 195) ∈ xWds := xW1 (List.mem_of_getElem? (i := 355) (by decide +kernel)) (by decide +kernel)
theorem w_398 : Cond.methodLink RL 120 (xnm 196) ∈ xWds := xW1 (List.mem_of_getElem? (i := 398) (by decide +kernel)) (by decide +kernel)
theorem w_416 : Cond.methodLink RL 123 (xnm 197) ∈ xWds := xW1 (List.mem_of_getElem? (i := 416) (by decide +kernel)) (by decide +kernel)
theorem w_552 : Cond.methodLink RL 127 (xnm 198) ∈ xWds := xW1 (List.mem_of_getElem? (i := 552) (by decide +kernel)) (by decide +kernel)
theorem w_568 : Cond.methodLink RL 131 (xnm 199) ∈ xWds := xW1 (List.mem_of_getElem? (i := 568) (by decide +kernel)) (by decide +kernel)
theorem w_594 : Cond.methodLink RL 134 (xnm 200) ∈ xWds := xW1 (List.mem_of_getElem? (i := 594) (by decide +kernel)) (by decide +kernel)
theorem w_615 : Cond.methodLink RL 138 (xnm 201) ∈ xWds := xW1 (List.mem_of_getElem? (i := 615) (by decide +kernel)) (by decide +kernel)
theorem w_630 : Cond.methodLink RL 142 (xnm 202) ∈ xWds := xW1 (List.mem_of_getElem? (i := 630) (by decide +kernel)) (by decide +kernel)
theorem w_646 : Cond.methodLink RL 145 (xnm 203) ∈ xWds := xW1 (List.mem_of_getElem? (i := 646) (by decide +kernel)) (by decide +kernel)
theorem w_860 : Cond.methodLink RL 148 (xnm 204) ∈ xWds := xW1 (List.mem_of_getElem? (i := 860) (by decide +kernel)) (by decide +kernel)
theorem w_885 : Cond.methodLink RL 151 (xnm 205) ∈ xWds := xW1 (List.mem_of_getElem? (i := 885) (by decide +kernel)) (by decide +kernel)
theorem w_910 : Cond.methodLink RL 154 (xnm 206) ∈ xWds := xW1 (List.mem_of_getElem? (i := 910) (by decide +kernel)) (by decide +kernel)
theorem w_928 : Cond.methodLink RL 158 (xnm 207) ∈ xWds := xW1 (List.mem_of_getElem? (i := 928) (by decide +kernel)) (by decide +kernel)
theorem w_944 : Cond.methodLink RL 161 (xnm 208) ∈ xWds := xW1 (List.mem_of_getElem? (i := 944) (by decide +kernel)) (by decide +kernel)
theorem w_951 : Cond.methodLink RL 164 (xnm 209) ∈ xWds := xW1 (List.mem_of_getElem? (i := 951) (by decide +kernel)) (by decide +kernel)
theorem w_963 : Cond.methodLink RL 167 (xnm 210) ∈ xWds := xW1 (List.mem_of_getElem? (i := 963) (by decide +kernel)) (by decide +kernel)
theorem w_982 : Cond.methodLink RL 172 (xnm 211) ∈ xWds := xW1 (List.mem_of_getElem? (i := 982) (by decide +kernel)) (by decide +kernel)
theorem w_1026 : Cond.methodLink RL 176 (xnm 212) ∈ xWds := xW1 (List.mem_of_getElem? (i := 1026) (by decide +kernel)) (by decide +kernel)
theorem w_1044 : Cond.methodLink RL 180 (xnm 213) ∈ xWds := xW1 (List.mem_of_getElem? (i := 1044) (by decide +kernel)) (by decide +kernel)
theorem w_1064 : Cond.methodLink RL 183 (xnm 214) ∈ xWds := xW1 (List.mem_of_getElem? (i := 1064) (by decide +kernel)) (by decide +kernel)
theorem w_1075 : Cond.methodLink RL 186 (xnm 215) ∈ xWds := xW1 (List.mem_of_getElem? (i := 1075) (by decide +kernel)) (by decide +kernel)
theorem w_1087 : Cond.methodLink RL 194 (xnm 216) ∈ xWds := xW1 (List.mem_of_getElem? (i := 1087) (by decide +kernel)) (by decide +kernel)
theorem w_1113 : Cond.classLink RL 100 "StuccohandModel" ∈ xWds := xW1 (List.mem_of_getElem? (i := 1113) (by decide +kernel)) (by decide +kernel)
theorem w_1114 : Cond.instantiable "StuccohandModel" 27 ∈ xWds := xW1 (List.mem_of_getElem? (i := 1114) (by decide +kernel)) (by decide +kernel)
theorem w_1115 : Cond.methodLink RL 102 (xnm 91) ∈ xWds := xW1 (List.mem_of_getElem? (i := 1115) (by decide +kernel)) (by decide +kernel)
theorem w_1202 : Cond.methodLink RL 109 (xnm 92) ∈ xWds := xW1 (List.mem_of_getElem? (i := 1202) (by decide +kernel)) (by decide +kernel)
theorem w_1206 : Cond.methodLink RL 108 (xnm 103) ∈ xWds := xW1 (List.mem_of_getElem? (i := 1206) (by decide +kernel)) (by decide +kernel)
theorem w_1217 : Cond.methodLink RL 116 (xnm 104) ∈ xWds := xW1 (List.mem_of_getElem? (i := 1217) (by decide +kernel)) (by decide +kernel)
theorem w_1221 : Cond.methodLink RL 119 (xnm 105) ∈ xWds := xW1 (List.mem_of_getElem? (i := 1221) (by decide +kernel)) (by decide +kernel)
theorem w_1229 : Cond.methodLink RL 122 (xnm 106) ∈ xWds := xW1 (List.mem_of_getElem? (i := 1229) (by decide +kernel)) (by decide +kernel)
theorem w_1237 : Cond.methodLink RL 126 (xnm 112) ∈ xWds := xW1 (List.mem_of_getElem? (i := 1237) (by decide +kernel)) (by decide +kernel)
theorem w_1273 : Cond.methodLink RL 130 (xnm 113) ∈ xWds := xW1 (List.mem_of_getElem? (i := 1273) (by decide +kernel)) (by decide +kernel)
theorem w_1277 : Cond.methodLink RL 133 (xnm 114) ∈ xWds := xW1 (List.mem_of_getElem? (i := 1277) (by decide +kernel)) (by decide +kernel)
theorem w_1281 : Cond.methodLink RL 137 (xnm 116) ∈ xWds := xW1 (List.mem_of_getElem? (i := 1281) (by decide +kernel)) (by decide +kernel)
theorem w_1292 : Cond.methodLink RL 141 (xnm 117) ∈ xWds := xW1 (List.mem_of_getElem? (i := 1292) (by decide +kernel)) (by decide +kernel)
theorem w_1300 : Cond.methodLink RL 144 (xnm 118) ∈ xWds := xW1 (List.mem_of_getElem? (i := 1300) (by decide +kernel)) (by decide +kernel)
theorem w_1304 : Cond.methodLink RL 147 (xnm 121) ∈ xWds := xW1 (List.mem_of_getElem? (i := 1304) (by decide +kernel)) (by decide +kernel)
theorem w_1322 : Cond.methodLink RL 150 (xnm 123) ∈ xWds := xW1 (List.mem_of_getElem? (i := 1322) (by decide +kernel)) (by decide +kernel)
theorem w_1326 : Cond.methodLink RL 153 (xnm 124) ∈ xWds := xW1 (List.mem_of_getElem? (i := 1326) (by decide +kernel)) (by decide +kernel)
theorem w_1334 : Cond.methodLink RL 157 (xnm 126) ∈ xWds := xW1 (List.mem_of_getElem? (i := 1334) (by decide +kernel)) (by decide +kernel)
theorem w_1344 : Cond.methodLink RL 160 (xnm 129) ∈ xWds := xW1 (List.mem_of_getElem? (i := 1344) (by decide +kernel)) (by decide +kernel)
theorem w_1355 : Cond.methodLink RL 163 (xnm 130) ∈ xWds := xW1 (List.mem_of_getElem? (i := 1355) (by decide +kernel)) (by decide +kernel)
theorem w_1359 : Cond.methodLink RL 166 (xnm 131) ∈ xWds := xW1 (List.mem_of_getElem? (i := 1359) (by decide +kernel)) (by decide +kernel)
theorem w_1363 : Cond.methodLink RL 169 (xnm 134) ∈ xWds := xW1 (List.mem_of_getElem? (i := 1363) (by decide +kernel)) (by decide +kernel)
theorem w_1370 : Cond.methodLink RL 175 (xnm 135) ∈ xWds := xW1 (List.mem_of_getElem? (i := 1370) (by decide +kernel)) (by decide +kernel)
theorem w_1378 : Cond.methodLink RL 179 (xnm 137) ∈ xWds := xW1 (List.mem_of_getElem? (i := 1378) (by decide +kernel)) (by decide +kernel)
theorem w_1386 : Cond.methodLink RL 182 (xnm 138) ∈ xWds := xW1 (List.mem_of_getElem? (i := 1386) (by decide +kernel)) (by decide +kernel)
theorem w_1390 : Cond.methodLink RL 185 (xnm 141) ∈ xWds := xW1 (List.mem_of_getElem? (i := 1390) (by decide +kernel)) (by decide +kernel)
theorem w_1401 : Cond.methodLink RL 189 (xnm 143) ∈ xWds := xW1 (List.mem_of_getElem? (i := 1401) (by decide +kernel)) (by decide +kernel)
theorem w_1408 : Cond.methodLink RL 193 (xnm 145) ∈ xWds := xW1 (List.mem_of_getElem? (i := 1408) (by decide +kernel)) (by decide +kernel)
theorem w_1416 : Cond.methodLink RL 196 (xnm 147) ∈ xWds := xW1 (List.mem_of_getElem? (i := 1416) (by decide +kernel)) (by decide +kernel)
theorem w_1424 : Cond.constantLong RL 170 (4294967295 : Int64) ∈ xWds := xW1 (List.mem_of_getElem? (i := 1424) (by decide +kernel)) (by decide +kernel)
theorem w_1425 : Cond.arrayClass .long ∈ xWds := xW1 (List.mem_of_getElem? (i := 1425) (by decide +kernel)) (by decide +kernel)
theorem w_1426 : Cond.arrayClass .double ∈ xWds := xW1 (List.mem_of_getElem? (i := 1426) (by decide +kernel)) (by decide +kernel)
theorem cw_50 : xcw 50 = Cond.code (xnm 50) cX10_init 1 none := rfl
theorem cm_50 : xcw 50 ∈ xWds := xW1 (List.mem_of_getElem? (i := 40) (by decide +kernel)) (by decide +kernel)
theorem ini_50 : Cond.initialized (xnm 50).cls ∈ xWds := xW1 (List.mem_of_getElem? (i := 1) (by decide +kernel)) (by decide +kernel)
theorem in_50 : Cond.instanceMethod (xnm 50) ∈ xWds := xW1 (List.mem_of_getElem? (i := 39) (by decide +kernel)) (by decide +kernel)
theorem nm_50 : (xnm 50).cls ≠ "java/lang/invoke/MethodHandle" ∧ (xnm 50).cls ≠ "java/lang/invoke/VarHandle" ∧ (parseMethodDescriptor (xnm 50).desc).map (fun d => d.parameters.length) = some 0 := by decide +kernel
theorem cw_89 : xcw 89 = Cond.code (xnm 89) cX10_pins 9 (some .int) := rfl
theorem cm_89 : xcw 89 ∈ xWds := xW1 (List.mem_of_getElem? (i := 129) (by decide +kernel)) (by decide +kernel)
theorem ini_89 : Cond.initialized (xnm 89).cls ∈ xWds := xW1 (List.mem_of_getElem? (i := 1) (by decide +kernel)) (by decide +kernel)
theorem in_89 : Cond.instanceMethod (xnm 89) ∈ xWds := xW1 (List.mem_of_getElem? (i := 127) (by decide +kernel)) (by decide +kernel)
theorem sel_89 : Cond.selects (xnm 89).cls (xnm 89) (xnm 89) ∈ xWds := xW1 (List.mem_of_getElem? (i := 128) (by decide +kernel)) (by decide +kernel)
theorem nm_89 : (xnm 89).cls ≠ "java/lang/invoke/MethodHandle" ∧ (xnm 89).cls ≠ "java/lang/invoke/VarHandle" ∧ (parseMethodDescriptor (xnm 89).desc).map (fun d => d.parameters.length) = some 1 := by decide +kernel
theorem cw_91 : xcw 91 = Cond.code (xnm 91) cX11_init 2 none := rfl
theorem cm_91 : xcw 91 ∈ xWds := xW1 (List.mem_of_getElem? (i := 1117) (by decide +kernel)) (by decide +kernel)
theorem ini_91 : Cond.initialized (xnm 91).cls ∈ xWds := xW1 (List.mem_of_getElem? (i := 7) (by decide +kernel)) (by decide +kernel)
theorem in_91 : Cond.instanceMethod (xnm 91) ∈ xWds := xW1 (List.mem_of_getElem? (i := 1116) (by decide +kernel)) (by decide +kernel)
theorem nm_91 : (xnm 91).cls ≠ "java/lang/invoke/MethodHandle" ∧ (xnm 91).cls ≠ "java/lang/invoke/VarHandle" ∧ (parseMethodDescriptor (xnm 91).desc).map (fun d => d.parameters.length) = some 0 := by decide +kernel
theorem cw_92 : xcw 92 = Cond.code (xnm 92) cX11_thrown 1 (some .int) := rfl
theorem cm_92 : xcw 92 ∈ xWds := xW1 (List.mem_of_getElem? (i := 1205) (by decide +kernel)) (by decide +kernel)
theorem ini_92 : Cond.initialized (xnm 92).cls ∈ xWds := xW1 (List.mem_of_getElem? (i := 7) (by decide +kernel)) (by decide +kernel)
theorem in_92 : Cond.instanceMethod (xnm 92) ∈ xWds := xW1 (List.mem_of_getElem? (i := 1203) (by decide +kernel)) (by decide +kernel)
theorem sel_92 : Cond.selects (xnm 92).cls (xnm 92) (xnm 92) ∈ xWds := xW1 (List.mem_of_getElem? (i := 1204) (by decide +kernel)) (by decide +kernel)
theorem nm_92 : (xnm 92).cls ≠ "java/lang/invoke/MethodHandle" ∧ (xnm 92).cls ≠ "java/lang/invoke/VarHandle" ∧ (parseMethodDescriptor (xnm 92).desc).map (fun d => d.parameters.length) = some 0 := by decide +kernel
theorem cw_103 : xcw 103 = Cond.code (xnm 103) cX11_wall 4 (some .int) := rfl
theorem cm_103 : xcw 103 ∈ xWds := xW1 (List.mem_of_getElem? (i := 1209) (by decide +kernel)) (by decide +kernel)
theorem ini_103 : Cond.initialized (xnm 103).cls ∈ xWds := xW1 (List.mem_of_getElem? (i := 7) (by decide +kernel)) (by decide +kernel)
theorem in_103 : Cond.instanceMethod (xnm 103) ∈ xWds := xW1 (List.mem_of_getElem? (i := 1207) (by decide +kernel)) (by decide +kernel)
theorem sel_103 : Cond.selects (xnm 103).cls (xnm 103) (xnm 103) ∈ xWds := xW1 (List.mem_of_getElem? (i := 1208) (by decide +kernel)) (by decide +kernel)
theorem nm_103 : (xnm 103).cls ≠ "java/lang/invoke/MethodHandle" ∧ (xnm 103).cls ≠ "java/lang/invoke/VarHandle" ∧ (parseMethodDescriptor (xnm 103).desc).map (fun d => d.parameters.length) = some 2 := by decide +kernel
theorem cw_104 : xcw 104 = Cond.code (xnm 104) cX11_weather 3 none := rfl
theorem cm_104 : xcw 104 ∈ xWds := xW1 (List.mem_of_getElem? (i := 1220) (by decide +kernel)) (by decide +kernel)
theorem ini_104 : Cond.initialized (xnm 104).cls ∈ xWds := xW1 (List.mem_of_getElem? (i := 7) (by decide +kernel)) (by decide +kernel)
theorem in_104 : Cond.instanceMethod (xnm 104) ∈ xWds := xW1 (List.mem_of_getElem? (i := 1218) (by decide +kernel)) (by decide +kernel)
theorem sel_104 : Cond.selects (xnm 104).cls (xnm 104) (xnm 104) ∈ xWds := xW1 (List.mem_of_getElem? (i := 1219) (by decide +kernel)) (by decide +kernel)
theorem nm_104 : (xnm 104).cls ≠ "java/lang/invoke/MethodHandle" ∧ (xnm 104).cls ≠ "java/lang/invoke/VarHandle" ∧ (parseMethodDescriptor (xnm 104).desc).map (fun d => d.parameters.length) = some 2 := by decide +kernel
theorem cw_105 : xcw 105 = Cond.code (xnm 105) cX11_damp 4 (some .int) := rfl
theorem cm_105 : xcw 105 ∈ xWds := xW1 (List.mem_of_getElem? (i := 1224) (by decide +kernel)) (by decide +kernel)
theorem ini_105 : Cond.initialized (xnm 105).cls ∈ xWds := xW1 (List.mem_of_getElem? (i := 7) (by decide +kernel)) (by decide +kernel)
theorem in_105 : Cond.instanceMethod (xnm 105) ∈ xWds := xW1 (List.mem_of_getElem? (i := 1222) (by decide +kernel)) (by decide +kernel)
theorem sel_105 : Cond.selects (xnm 105).cls (xnm 105) (xnm 105) ∈ xWds := xW1 (List.mem_of_getElem? (i := 1223) (by decide +kernel)) (by decide +kernel)
theorem nm_105 : (xnm 105).cls ≠ "java/lang/invoke/MethodHandle" ∧ (xnm 105).cls ≠ "java/lang/invoke/VarHandle" ∧ (parseMethodDescriptor (xnm 105).desc).map (fun d => d.parameters.length) = some 2 := by decide +kernel
theorem cw_106 : xcw 106 = Cond.code (xnm 106) cX11_joint 5 (some .boolean) := rfl
theorem cm_106 : xcw 106 ∈ xWds := xW1 (List.mem_of_getElem? (i := 1232) (by decide +kernel)) (by decide +kernel)
theorem ini_106 : Cond.initialized (xnm 106).cls ∈ xWds := xW1 (List.mem_of_getElem? (i := 7) (by decide +kernel)) (by decide +kernel)
theorem in_106 : Cond.instanceMethod (xnm 106) ∈ xWds := xW1 (List.mem_of_getElem? (i := 1230) (by decide +kernel)) (by decide +kernel)
theorem sel_106 : Cond.selects (xnm 106).cls (xnm 106) (xnm 106) ∈ xWds := xW1 (List.mem_of_getElem? (i := 1231) (by decide +kernel)) (by decide +kernel)
theorem nm_106 : (xnm 106).cls ≠ "java/lang/invoke/MethodHandle" ∧ (xnm 106).cls ≠ "java/lang/invoke/VarHandle" ∧ (parseMethodDescriptor (xnm 106).desc).map (fun d => d.parameters.length) = some 2 := by decide +kernel
theorem cw_112 : xcw 112 = Cond.code (xnm 112) cX11_coat 13 (some .int) := rfl
theorem cm_112 : xcw 112 ∈ xWds := xW1 (List.mem_of_getElem? (i := 1240) (by decide +kernel)) (by decide +kernel)
theorem ini_112 : Cond.initialized (xnm 112).cls ∈ xWds := xW1 (List.mem_of_getElem? (i := 7) (by decide +kernel)) (by decide +kernel)
theorem in_112 : Cond.instanceMethod (xnm 112) ∈ xWds := xW1 (List.mem_of_getElem? (i := 1238) (by decide +kernel)) (by decide +kernel)
theorem sel_112 : Cond.selects (xnm 112).cls (xnm 112) (xnm 112) ∈ xWds := xW1 (List.mem_of_getElem? (i := 1239) (by decide +kernel)) (by decide +kernel)
theorem nm_112 : (xnm 112).cls ≠ "java/lang/invoke/MethodHandle" ∧ (xnm 112).cls ≠ "java/lang/invoke/VarHandle" ∧ (parseMethodDescriptor (xnm 112).desc).map (fun d => d.parameters.length) = some 5 := by decide +kernel
theorem cw_113 : xcw 113 = Cond.code (xnm 113) cX11_scratch 9 (some .int) := rfl
theorem cm_113 : xcw 113 ∈ xWds := xW1 (List.mem_of_getElem? (i := 1276) (by decide +kernel)) (by decide +kernel)
theorem ini_113 : Cond.initialized (xnm 113).cls ∈ xWds := xW1 (List.mem_of_getElem? (i := 7) (by decide +kernel)) (by decide +kernel)
theorem in_113 : Cond.instanceMethod (xnm 113) ∈ xWds := xW1 (List.mem_of_getElem? (i := 1274) (by decide +kernel)) (by decide +kernel)
theorem sel_113 : Cond.selects (xnm 113).cls (xnm 113) (xnm 113) ∈ xWds := xW1 (List.mem_of_getElem? (i := 1275) (by decide +kernel)) (by decide +kernel)
theorem nm_113 : (xnm 113).cls ≠ "java/lang/invoke/MethodHandle" ∧ (xnm 113).cls ≠ "java/lang/invoke/VarHandle" ∧ (parseMethodDescriptor (xnm 113).desc).map (fun d => d.parameters.length) = some 3 := by decide +kernel
theorem cw_114 : xcw 114 = Cond.code (xnm 114) cX11_strike 4 (some .int) := rfl
theorem cm_114 : xcw 114 ∈ xWds := xW1 (List.mem_of_getElem? (i := 1280) (by decide +kernel)) (by decide +kernel)
theorem ini_114 : Cond.initialized (xnm 114).cls ∈ xWds := xW1 (List.mem_of_getElem? (i := 7) (by decide +kernel)) (by decide +kernel)
theorem in_114 : Cond.instanceMethod (xnm 114) ∈ xWds := xW1 (List.mem_of_getElem? (i := 1278) (by decide +kernel)) (by decide +kernel)
theorem sel_114 : Cond.selects (xnm 114).cls (xnm 114) (xnm 114) ∈ xWds := xW1 (List.mem_of_getElem? (i := 1279) (by decide +kernel)) (by decide +kernel)
theorem nm_114 : (xnm 114).cls ≠ "java/lang/invoke/MethodHandle" ∧ (xnm 114).cls ≠ "java/lang/invoke/VarHandle" ∧ (parseMethodDescriptor (xnm 114).desc).map (fun d => d.parameters.length) = some 2 := by decide +kernel
theorem cw_116 : xcw 116 = Cond.code (xnm 116) cX11_pass 6 (some .int) := rfl
theorem cm_116 : xcw 116 ∈ xWds := xW1 (List.mem_of_getElem? (i := 1284) (by decide +kernel)) (by decide +kernel)
theorem ini_116 : Cond.initialized (xnm 116).cls ∈ xWds := xW1 (List.mem_of_getElem? (i := 7) (by decide +kernel)) (by decide +kernel)
theorem in_116 : Cond.instanceMethod (xnm 116) ∈ xWds := xW1 (List.mem_of_getElem? (i := 1282) (by decide +kernel)) (by decide +kernel)
theorem sel_116 : Cond.selects (xnm 116).cls (xnm 116) (xnm 116) ∈ xWds := xW1 (List.mem_of_getElem? (i := 1283) (by decide +kernel)) (by decide +kernel)
theorem nm_116 : (xnm 116).cls ≠ "java/lang/invoke/MethodHandle" ∧ (xnm 116).cls ≠ "java/lang/invoke/VarHandle" ∧ (parseMethodDescriptor (xnm 116).desc).map (fun d => d.parameters.length) = some 1 := by decide +kernel
theorem cw_117 : xcw 117 = Cond.code (xnm 117) cX11_ofCoat 6 (some .int) := rfl
theorem cm_117 : xcw 117 ∈ xWds := xW1 (List.mem_of_getElem? (i := 1295) (by decide +kernel)) (by decide +kernel)
theorem ini_117 : Cond.initialized (xnm 117).cls ∈ xWds := xW1 (List.mem_of_getElem? (i := 7) (by decide +kernel)) (by decide +kernel)
theorem in_117 : Cond.instanceMethod (xnm 117) ∈ xWds := xW1 (List.mem_of_getElem? (i := 1293) (by decide +kernel)) (by decide +kernel)
theorem sel_117 : Cond.selects (xnm 117).cls (xnm 117) (xnm 117) ∈ xWds := xW1 (List.mem_of_getElem? (i := 1294) (by decide +kernel)) (by decide +kernel)
theorem nm_117 : (xnm 117).cls ≠ "java/lang/invoke/MethodHandle" ∧ (xnm 117).cls ≠ "java/lang/invoke/VarHandle" ∧ (parseMethodDescriptor (xnm 117).desc).map (fun d => d.parameters.length) = some 4 := by decide +kernel
theorem cw_118 : xcw 118 = Cond.code (xnm 118) cX11_coatsAnew 3 (some .int) := rfl
theorem cm_118 : xcw 118 ∈ xWds := xW1 (List.mem_of_getElem? (i := 1303) (by decide +kernel)) (by decide +kernel)
theorem ini_118 : Cond.initialized (xnm 118).cls ∈ xWds := xW1 (List.mem_of_getElem? (i := 7) (by decide +kernel)) (by decide +kernel)
theorem in_118 : Cond.instanceMethod (xnm 118) ∈ xWds := xW1 (List.mem_of_getElem? (i := 1301) (by decide +kernel)) (by decide +kernel)
theorem sel_118 : Cond.selects (xnm 118).cls (xnm 118) (xnm 118) ∈ xWds := xW1 (List.mem_of_getElem? (i := 1302) (by decide +kernel)) (by decide +kernel)
theorem nm_118 : (xnm 118).cls ≠ "java/lang/invoke/MethodHandle" ∧ (xnm 118).cls ≠ "java/lang/invoke/VarHandle" ∧ (parseMethodDescriptor (xnm 118).desc).map (fun d => d.parameters.length) = some 2 := by decide +kernel
theorem cw_121 : xcw 121 = Cond.code (xnm 121) cX11_text 6 (some .char) := rfl
theorem cm_121 : xcw 121 ∈ xWds := xW1 (List.mem_of_getElem? (i := 1307) (by decide +kernel)) (by decide +kernel)
theorem ini_121 : Cond.initialized (xnm 121).cls ∈ xWds := xW1 (List.mem_of_getElem? (i := 7) (by decide +kernel)) (by decide +kernel)
theorem in_121 : Cond.instanceMethod (xnm 121) ∈ xWds := xW1 (List.mem_of_getElem? (i := 1305) (by decide +kernel)) (by decide +kernel)
theorem sel_121 : Cond.selects (xnm 121).cls (xnm 121) (xnm 121) ∈ xWds := xW1 (List.mem_of_getElem? (i := 1306) (by decide +kernel)) (by decide +kernel)
theorem nm_121 : (xnm 121).cls ≠ "java/lang/invoke/MethodHandle" ∧ (xnm 121).cls ≠ "java/lang/invoke/VarHandle" ∧ (parseMethodDescriptor (xnm 121).desc).map (fun d => d.parameters.length) = some 4 := by decide +kernel
theorem cw_123 : xcw 123 = Cond.code (xnm 123) cX11_profile 2 (some .int) := rfl
theorem cm_123 : xcw 123 ∈ xWds := xW1 (List.mem_of_getElem? (i := 1325) (by decide +kernel)) (by decide +kernel)
theorem ini_123 : Cond.initialized (xnm 123).cls ∈ xWds := xW1 (List.mem_of_getElem? (i := 7) (by decide +kernel)) (by decide +kernel)
theorem in_123 : Cond.instanceMethod (xnm 123) ∈ xWds := xW1 (List.mem_of_getElem? (i := 1323) (by decide +kernel)) (by decide +kernel)
theorem sel_123 : Cond.selects (xnm 123).cls (xnm 123) (xnm 123) ∈ xWds := xW1 (List.mem_of_getElem? (i := 1324) (by decide +kernel)) (by decide +kernel)
theorem nm_123 : (xnm 123).cls ≠ "java/lang/invoke/MethodHandle" ∧ (xnm 123).cls ≠ "java/lang/invoke/VarHandle" ∧ (parseMethodDescriptor (xnm 123).desc).map (fun d => d.parameters.length) = some 1 := by decide +kernel
theorem cw_124 : xcw 124 = Cond.code (xnm 124) cX11_depth 4 (some .int) := rfl
theorem cm_124 : xcw 124 ∈ xWds := xW1 (List.mem_of_getElem? (i := 1329) (by decide +kernel)) (by decide +kernel)
theorem ini_124 : Cond.initialized (xnm 124).cls ∈ xWds := xW1 (List.mem_of_getElem? (i := 7) (by decide +kernel)) (by decide +kernel)
theorem in_124 : Cond.instanceMethod (xnm 124) ∈ xWds := xW1 (List.mem_of_getElem? (i := 1327) (by decide +kernel)) (by decide +kernel)
theorem sel_124 : Cond.selects (xnm 124).cls (xnm 124) (xnm 124) ∈ xWds := xW1 (List.mem_of_getElem? (i := 1328) (by decide +kernel)) (by decide +kernel)
theorem nm_124 : (xnm 124).cls ≠ "java/lang/invoke/MethodHandle" ∧ (xnm 124).cls ≠ "java/lang/invoke/VarHandle" ∧ (parseMethodDescriptor (xnm 124).desc).map (fun d => d.parameters.length) = some 2 := by decide +kernel
theorem cw_126 : xcw 126 = Cond.code (xnm 126) cX11_mitre 11 (some .float) := rfl
theorem cm_126 : xcw 126 ∈ xWds := xW1 (List.mem_of_getElem? (i := 1337) (by decide +kernel)) (by decide +kernel)
theorem ini_126 : Cond.initialized (xnm 126).cls ∈ xWds := xW1 (List.mem_of_getElem? (i := 7) (by decide +kernel)) (by decide +kernel)
theorem in_126 : Cond.instanceMethod (xnm 126) ∈ xWds := xW1 (List.mem_of_getElem? (i := 1335) (by decide +kernel)) (by decide +kernel)
theorem sel_126 : Cond.selects (xnm 126).cls (xnm 126) (xnm 126) ∈ xWds := xW1 (List.mem_of_getElem? (i := 1336) (by decide +kernel)) (by decide +kernel)
theorem nm_126 : (xnm 126).cls ≠ "java/lang/invoke/MethodHandle" ∧ (xnm 126).cls ≠ "java/lang/invoke/VarHandle" ∧ (parseMethodDescriptor (xnm 126).desc).map (fun d => d.parameters.length) = some 2 := by decide +kernel
theorem cw_129 : xcw 129 = Cond.code (xnm 129) cX11_fits 3 (some .int) := rfl
theorem cm_129 : xcw 129 ∈ xWds := xW1 (List.mem_of_getElem? (i := 1347) (by decide +kernel)) (by decide +kernel)
theorem ini_129 : Cond.initialized (xnm 129).cls ∈ xWds := xW1 (List.mem_of_getElem? (i := 7) (by decide +kernel)) (by decide +kernel)
theorem in_129 : Cond.instanceMethod (xnm 129) ∈ xWds := xW1 (List.mem_of_getElem? (i := 1345) (by decide +kernel)) (by decide +kernel)
theorem sel_129 : Cond.selects (xnm 129).cls (xnm 129) (xnm 129) ∈ xWds := xW1 (List.mem_of_getElem? (i := 1346) (by decide +kernel)) (by decide +kernel)
theorem nm_129 : (xnm 129).cls ≠ "java/lang/invoke/MethodHandle" ∧ (xnm 129).cls ≠ "java/lang/invoke/VarHandle" ∧ (parseMethodDescriptor (xnm 129).desc).map (fun d => d.parameters.length) = some 2 := by decide +kernel
theorem cw_130 : xcw 130 = Cond.code (xnm 130) cX11_step 5 (some .float) := rfl
theorem cm_130 : xcw 130 ∈ xWds := xW1 (List.mem_of_getElem? (i := 1358) (by decide +kernel)) (by decide +kernel)
theorem ini_130 : Cond.initialized (xnm 130).cls ∈ xWds := xW1 (List.mem_of_getElem? (i := 7) (by decide +kernel)) (by decide +kernel)
theorem in_130 : Cond.instanceMethod (xnm 130) ∈ xWds := xW1 (List.mem_of_getElem? (i := 1356) (by decide +kernel)) (by decide +kernel)
theorem sel_130 : Cond.selects (xnm 130).cls (xnm 130) (xnm 130) ∈ xWds := xW1 (List.mem_of_getElem? (i := 1357) (by decide +kernel)) (by decide +kernel)
theorem nm_130 : (xnm 130).cls ≠ "java/lang/invoke/MethodHandle" ∧ (xnm 130).cls ≠ "java/lang/invoke/VarHandle" ∧ (parseMethodDescriptor (xnm 130).desc).map (fun d => d.parameters.length) = some 2 := by decide +kernel
theorem cw_131 : xcw 131 = Cond.code (xnm 131) cX11_cut 10 (some .int) := rfl
theorem cm_131 : xcw 131 ∈ xWds := xW1 (List.mem_of_getElem? (i := 1362) (by decide +kernel)) (by decide +kernel)
theorem ini_131 : Cond.initialized (xnm 131).cls ∈ xWds := xW1 (List.mem_of_getElem? (i := 7) (by decide +kernel)) (by decide +kernel)
theorem in_131 : Cond.instanceMethod (xnm 131) ∈ xWds := xW1 (List.mem_of_getElem? (i := 1360) (by decide +kernel)) (by decide +kernel)
theorem sel_131 : Cond.selects (xnm 131).cls (xnm 131) (xnm 131) ∈ xWds := xW1 (List.mem_of_getElem? (i := 1361) (by decide +kernel)) (by decide +kernel)
theorem nm_131 : (xnm 131).cls ≠ "java/lang/invoke/MethodHandle" ∧ (xnm 131).cls ≠ "java/lang/invoke/VarHandle" ∧ (parseMethodDescriptor (xnm 131).desc).map (fun d => d.parameters.length) = some 3 := by decide +kernel
theorem cw_134 : xcw 134 = Cond.code (xnm 134) cX11_window 4 (some .int) := rfl
theorem cm_134 : xcw 134 ∈ xWds := xW1 (List.mem_of_getElem? (i := 1366) (by decide +kernel)) (by decide +kernel)
theorem ini_134 : Cond.initialized (xnm 134).cls ∈ xWds := xW1 (List.mem_of_getElem? (i := 7) (by decide +kernel)) (by decide +kernel)
theorem in_134 : Cond.instanceMethod (xnm 134) ∈ xWds := xW1 (List.mem_of_getElem? (i := 1364) (by decide +kernel)) (by decide +kernel)
theorem sel_134 : Cond.selects (xnm 134).cls (xnm 134) (xnm 134) ∈ xWds := xW1 (List.mem_of_getElem? (i := 1365) (by decide +kernel)) (by decide +kernel)
theorem nm_134 : (xnm 134).cls ≠ "java/lang/invoke/MethodHandle" ∧ (xnm 134).cls ≠ "java/lang/invoke/VarHandle" ∧ (parseMethodDescriptor (xnm 134).desc).map (fun d => d.parameters.length) = some 2 := by decide +kernel
theorem cw_135 : xcw 135 = Cond.code (xnm 135) cX11_patch 4 (some .int) := rfl
theorem cm_135 : xcw 135 ∈ xWds := xW1 (List.mem_of_getElem? (i := 1373) (by decide +kernel)) (by decide +kernel)
theorem ini_135 : Cond.initialized (xnm 135).cls ∈ xWds := xW1 (List.mem_of_getElem? (i := 7) (by decide +kernel)) (by decide +kernel)
theorem in_135 : Cond.instanceMethod (xnm 135) ∈ xWds := xW1 (List.mem_of_getElem? (i := 1371) (by decide +kernel)) (by decide +kernel)
theorem sel_135 : Cond.selects (xnm 135).cls (xnm 135) (xnm 135) ∈ xWds := xW1 (List.mem_of_getElem? (i := 1372) (by decide +kernel)) (by decide +kernel)
theorem nm_135 : (xnm 135).cls ≠ "java/lang/invoke/MethodHandle" ∧ (xnm 135).cls ≠ "java/lang/invoke/VarHandle" ∧ (parseMethodDescriptor (xnm 135).desc).map (fun d => d.parameters.length) = some 1 := by decide +kernel
theorem cw_137 : xcw 137 = Cond.code (xnm 137) cX11_paint 10 (some .int) := rfl
theorem cm_137 : xcw 137 ∈ xWds := xW1 (List.mem_of_getElem? (i := 1381) (by decide +kernel)) (by decide +kernel)
theorem ini_137 : Cond.initialized (xnm 137).cls ∈ xWds := xW1 (List.mem_of_getElem? (i := 7) (by decide +kernel)) (by decide +kernel)
theorem in_137 : Cond.instanceMethod (xnm 137) ∈ xWds := xW1 (List.mem_of_getElem? (i := 1379) (by decide +kernel)) (by decide +kernel)
theorem sel_137 : Cond.selects (xnm 137).cls (xnm 137) (xnm 137) ∈ xWds := xW1 (List.mem_of_getElem? (i := 1380) (by decide +kernel)) (by decide +kernel)
theorem nm_137 : (xnm 137).cls ≠ "java/lang/invoke/MethodHandle" ∧ (xnm 137).cls ≠ "java/lang/invoke/VarHandle" ∧ (parseMethodDescriptor (xnm 137).desc).map (fun d => d.parameters.length) = some 4 := by decide +kernel
theorem cw_138 : xcw 138 = Cond.code (xnm 138) cX11_ofCell 3 (some .int) := rfl
theorem cm_138 : xcw 138 ∈ xWds := xW1 (List.mem_of_getElem? (i := 1389) (by decide +kernel)) (by decide +kernel)
theorem ini_138 : Cond.initialized (xnm 138).cls ∈ xWds := xW1 (List.mem_of_getElem? (i := 7) (by decide +kernel)) (by decide +kernel)
theorem in_138 : Cond.instanceMethod (xnm 138) ∈ xWds := xW1 (List.mem_of_getElem? (i := 1387) (by decide +kernel)) (by decide +kernel)
theorem sel_138 : Cond.selects (xnm 138).cls (xnm 138) (xnm 138) ∈ xWds := xW1 (List.mem_of_getElem? (i := 1388) (by decide +kernel)) (by decide +kernel)
theorem nm_138 : (xnm 138).cls ≠ "java/lang/invoke/MethodHandle" ∧ (xnm 138).cls ≠ "java/lang/invoke/VarHandle" ∧ (parseMethodDescriptor (xnm 138).desc).map (fun d => d.parameters.length) = some 2 := by decide +kernel
theorem cw_141 : xcw 141 = Cond.code (xnm 141) cX11_over 4 (some .int) := rfl
theorem cm_141 : xcw 141 ∈ xWds := xW1 (List.mem_of_getElem? (i := 1393) (by decide +kernel)) (by decide +kernel)
theorem ini_141 : Cond.initialized (xnm 141).cls ∈ xWds := xW1 (List.mem_of_getElem? (i := 7) (by decide +kernel)) (by decide +kernel)
theorem in_141 : Cond.instanceMethod (xnm 141) ∈ xWds := xW1 (List.mem_of_getElem? (i := 1391) (by decide +kernel)) (by decide +kernel)
theorem sel_141 : Cond.selects (xnm 141).cls (xnm 141) (xnm 141) ∈ xWds := xW1 (List.mem_of_getElem? (i := 1392) (by decide +kernel)) (by decide +kernel)
theorem nm_141 : (xnm 141).cls ≠ "java/lang/invoke/MethodHandle" ∧ (xnm 141).cls ≠ "java/lang/invoke/VarHandle" ∧ (parseMethodDescriptor (xnm 141).desc).map (fun d => d.parameters.length) = some 1 := by decide +kernel
theorem cw_143 : xcw 143 = Cond.code (xnm 143) cX11_tells 12 (some .int) := rfl
theorem cm_143 : xcw 143 ∈ xWds := xW1 (List.mem_of_getElem? (i := 1404) (by decide +kernel)) (by decide +kernel)
theorem ini_143 : Cond.initialized (xnm 143).cls ∈ xWds := xW1 (List.mem_of_getElem? (i := 7) (by decide +kernel)) (by decide +kernel)
theorem in_143 : Cond.instanceMethod (xnm 143) ∈ xWds := xW1 (List.mem_of_getElem? (i := 1402) (by decide +kernel)) (by decide +kernel)
theorem sel_143 : Cond.selects (xnm 143).cls (xnm 143) (xnm 143) ∈ xWds := xW1 (List.mem_of_getElem? (i := 1403) (by decide +kernel)) (by decide +kernel)
theorem nm_143 : (xnm 143).cls ≠ "java/lang/invoke/MethodHandle" ∧ (xnm 143).cls ≠ "java/lang/invoke/VarHandle" ∧ (parseMethodDescriptor (xnm 143).desc).map (fun d => d.parameters.length) = some 6 := by decide +kernel
theorem cw_145 : xcw 145 = Cond.code (xnm 145) cX11_pins 5 (some .int) := rfl
theorem cm_145 : xcw 145 ∈ xWds := xW1 (List.mem_of_getElem? (i := 1411) (by decide +kernel)) (by decide +kernel)
theorem ini_145 : Cond.initialized (xnm 145).cls ∈ xWds := xW1 (List.mem_of_getElem? (i := 7) (by decide +kernel)) (by decide +kernel)
theorem in_145 : Cond.instanceMethod (xnm 145) ∈ xWds := xW1 (List.mem_of_getElem? (i := 1409) (by decide +kernel)) (by decide +kernel)
theorem sel_145 : Cond.selects (xnm 145).cls (xnm 145) (xnm 145) ∈ xWds := xW1 (List.mem_of_getElem? (i := 1410) (by decide +kernel)) (by decide +kernel)
theorem nm_145 : (xnm 145).cls ≠ "java/lang/invoke/MethodHandle" ∧ (xnm 145).cls ≠ "java/lang/invoke/VarHandle" ∧ (parseMethodDescriptor (xnm 145).desc).map (fun d => d.parameters.length) = some 1 := by decide +kernel
theorem cw_147 : xcw 147 = Cond.code (xnm 147) cX11_bill 7 (some .int) := rfl
theorem cm_147 : xcw 147 ∈ xWds := xW1 (List.mem_of_getElem? (i := 1419) (by decide +kernel)) (by decide +kernel)
theorem ini_147 : Cond.initialized (xnm 147).cls ∈ xWds := xW1 (List.mem_of_getElem? (i := 7) (by decide +kernel)) (by decide +kernel)
theorem in_147 : Cond.instanceMethod (xnm 147) ∈ xWds := xW1 (List.mem_of_getElem? (i := 1417) (by decide +kernel)) (by decide +kernel)
theorem sel_147 : Cond.selects (xnm 147).cls (xnm 147) (xnm 147) ∈ xWds := xW1 (List.mem_of_getElem? (i := 1418) (by decide +kernel)) (by decide +kernel)
theorem nm_147 : (xnm 147).cls ≠ "java/lang/invoke/MethodHandle" ∧ (xnm 147).cls ≠ "java/lang/invoke/VarHandle" ∧ (parseMethodDescriptor (xnm 147).desc).map (fun d => d.parameters.length) = some 3 := by decide +kernel
theorem cw_193 : xcw 193 = Cond.codeWith (xnm 193) cL_wall 5 (some .int) [(0, 10, 13, 13), (0, 10, 17, 15)] := rfl
theorem cm_193 : xcw 193 ∈ xWds := xW1 (List.mem_of_getElem? (i := 148) (by decide +kernel)) (by decide +kernel)
theorem ini_193 : Cond.initialized (xnm 193).cls ∈ xWds := xW1 (List.mem_of_getElem? (i := 0) (by decide +kernel)) (by decide +kernel)
theorem st_193 : Cond.static (xnm 193) ∈ xWds := xW1 (List.mem_of_getElem? (i := 147) (by decide +kernel)) (by decide +kernel)
theorem nm_193 : (xnm 193).cls ≠ "java/lang/invoke/MethodHandle" ∧ (xnm 193).cls ≠ "java/lang/invoke/VarHandle" ∧ (parseMethodDescriptor (xnm 193).desc).map (fun d => d.parameters.length) = some 4 := by decide +kernel
theorem cw_194 : xcw 194 = Cond.codeWith (xnm 194) cL_weather 4 (some .int) [(0, 6, 9, 13)] := rfl
theorem cm_194 : xcw 194 ∈ xWds := xW1 (List.mem_of_getElem? (i := 348) (by decide +kernel)) (by decide +kernel)
theorem ini_194 : Cond.initialized (xnm 194).cls ∈ xWds := xW1 (List.mem_of_getElem? (i := 0) (by decide +kernel)) (by decide +kernel)
theorem st_194 : Cond.static (xnm 194) ∈ xWds := xW1 (List.mem_of_getElem? (i := 347) (by decide +kernel)) (by decide +kernel)
theorem nm_194 : (xnm 194).cls ≠ "java/lang/invoke/MethodHandle" ∧ (xnm 194).cls ≠ "java/lang/invoke/VarHandle" ∧ (parseMethodDescriptor (xnm 194).desc).map (fun d => d.parameters.length) = some 3 := by decide +kernel
theorem cw_195 : xcw 195 = Cond.codeWith (xnm 195) cL_damp 5 (some .int) [(0, 10, 13, 24), (0, 10, 17, 13)] := rfl
theorem cm_195 : xcw 195 ∈ xWds := xW1 (List.mem_of_getElem? (i := 357) (by decide +kernel)) (by decide +kernel)
theorem ini_195 : Cond.initialized (xnm 195).cls ∈ xWds := xW1 (List.mem_of_getElem? (i := 0) (by decide +kernel)) (by decide +kernel)
theorem st_195 : Cond.static (xnm 195) ∈ xWds := xW1 (List.mem_of_getElem? (i := 356) (by decide +kernel)) (by decide +kernel)
theorem nm_195 : (xnm 195).cls ≠ "java/lang/invoke/MethodHandle" ∧ (xnm 195).cls ≠ "java/lang/invoke/VarHandle" ∧ (parseMethodDescriptor (xnm 195).desc).map (fun d => d.parameters.length) = some 4 := by decide +kernel
theorem cw_196 : xcw 196 = Cond.codeWith (xnm 196) cL_joint 5 (some .int) [(0, 17, 20, 24)] := rfl
theorem cm_196 : xcw 196 ∈ xWds := xW1 (List.mem_of_getElem? (i := 400) (by decide +kernel)) (by decide +kernel)
theorem ini_196 : Cond.initialized (xnm 196).cls ∈ xWds := xW1 (List.mem_of_getElem? (i := 0) (by decide +kernel)) (by decide +kernel)
theorem st_196 : Cond.static (xnm 196) ∈ xWds := xW1 (List.mem_of_getElem? (i := 399) (by decide +kernel)) (by decide +kernel)
theorem nm_196 : (xnm 196).cls ≠ "java/lang/invoke/MethodHandle" ∧ (xnm 196).cls ≠ "java/lang/invoke/VarHandle" ∧ (parseMethodDescriptor (xnm 196).desc).map (fun d => d.parameters.length) = some 4 := by decide +kernel
theorem cw_197 : xcw 197 = Cond.codeWith (xnm 197) cL_coat 8 (some .int) [(0, 16, 19, 24), (0, 16, 23, 13), (0, 16, 27, 15)] := rfl
theorem cm_197 : xcw 197 ∈ xWds := xW1 (List.mem_of_getElem? (i := 418) (by decide +kernel)) (by decide +kernel)
theorem ini_197 : Cond.initialized (xnm 197).cls ∈ xWds := xW1 (List.mem_of_getElem? (i := 0) (by decide +kernel)) (by decide +kernel)
theorem st_197 : Cond.static (xnm 197) ∈ xWds := xW1 (List.mem_of_getElem? (i := 417) (by decide +kernel)) (by decide +kernel)
theorem nm_197 : (xnm 197).cls ≠ "java/lang/invoke/MethodHandle" ∧ (xnm 197).cls ≠ "java/lang/invoke/VarHandle" ∧ (parseMethodDescriptor (xnm 197).desc).map (fun d => d.parameters.length) = some 7 := by decide +kernel
theorem cw_198 : xcw 198 = Cond.codeWith (xnm 198) cL_scratch 6 (some .int) [(0, 12, 15, 24), (0, 12, 19, 13), (0, 12, 23, 15)] := rfl
theorem cm_198 : xcw 198 ∈ xWds := xW1 (List.mem_of_getElem? (i := 554) (by decide +kernel)) (by decide +kernel)
theorem ini_198 : Cond.initialized (xnm 198).cls ∈ xWds := xW1 (List.mem_of_getElem? (i := 0) (by decide +kernel)) (by decide +kernel)
theorem st_198 : Cond.static (xnm 198) ∈ xWds := xW1 (List.mem_of_getElem? (i := 553) (by decide +kernel)) (by decide +kernel)
theorem nm_198 : (xnm 198).cls ≠ "java/lang/invoke/MethodHandle" ∧ (xnm 198).cls ≠ "java/lang/invoke/VarHandle" ∧ (parseMethodDescriptor (xnm 198).desc).map (fun d => d.parameters.length) = some 5 := by decide +kernel
theorem cw_199 : xcw 199 = Cond.codeWith (xnm 199) cL_strike 5 (some .int) [(0, 10, 13, 24), (0, 10, 17, 15)] := rfl
theorem cm_199 : xcw 199 ∈ xWds := xW1 (List.mem_of_getElem? (i := 570) (by decide +kernel)) (by decide +kernel)
theorem ini_199 : Cond.initialized (xnm 199).cls ∈ xWds := xW1 (List.mem_of_getElem? (i := 0) (by decide +kernel)) (by decide +kernel)
theorem st_199 : Cond.static (xnm 199) ∈ xWds := xW1 (List.mem_of_getElem? (i := 569) (by decide +kernel)) (by decide +kernel)
theorem nm_199 : (xnm 199).cls ≠ "java/lang/invoke/MethodHandle" ∧ (xnm 199).cls ≠ "java/lang/invoke/VarHandle" ∧ (parseMethodDescriptor (xnm 199).desc).map (fun d => d.parameters.length) = some 4 := by decide +kernel
theorem cw_200 : xcw 200 = Cond.codeWith (xnm 200) cL_pass 4 (some .int) [(0, 9, 12, 13), (0, 9, 15, 15)] := rfl
theorem cm_200 : xcw 200 ∈ xWds := xW1 (List.mem_of_getElem? (i := 596) (by decide +kernel)) (by decide +kernel)
theorem ini_200 : Cond.initialized (xnm 200).cls ∈ xWds := xW1 (List.mem_of_getElem? (i := 0) (by decide +kernel)) (by decide +kernel)
theorem st_200 : Cond.static (xnm 200) ∈ xWds := xW1 (List.mem_of_getElem? (i := 595) (by decide +kernel)) (by decide +kernel)
theorem nm_200 : (xnm 200).cls ≠ "java/lang/invoke/MethodHandle" ∧ (xnm 200).cls ≠ "java/lang/invoke/VarHandle" ∧ (parseMethodDescriptor (xnm 200).desc).map (fun d => d.parameters.length) = some 3 := by decide +kernel
theorem cw_201 : xcw 201 = Cond.codeWith (xnm 201) cL_ofCoat 7 (some .int) [(0, 14, 17, 24), (0, 14, 21, 13)] := rfl
theorem cm_201 : xcw 201 ∈ xWds := xW1 (List.mem_of_getElem? (i := 617) (by decide +kernel)) (by decide +kernel)
theorem ini_201 : Cond.initialized (xnm 201).cls ∈ xWds := xW1 (List.mem_of_getElem? (i := 0) (by decide +kernel)) (by decide +kernel)
theorem st_201 : Cond.static (xnm 201) ∈ xWds := xW1 (List.mem_of_getElem? (i := 616) (by decide +kernel)) (by decide +kernel)
theorem nm_201 : (xnm 201).cls ≠ "java/lang/invoke/MethodHandle" ∧ (xnm 201).cls ≠ "java/lang/invoke/VarHandle" ∧ (parseMethodDescriptor (xnm 201).desc).map (fun d => d.parameters.length) = some 6 := by decide +kernel
theorem cw_202 : xcw 202 = Cond.codeWith (xnm 202) cL_coatsAnew 5 (some .int) [(0, 10, 13, 24)] := rfl
theorem cm_202 : xcw 202 ∈ xWds := xW1 (List.mem_of_getElem? (i := 632) (by decide +kernel)) (by decide +kernel)
theorem ini_202 : Cond.initialized (xnm 202).cls ∈ xWds := xW1 (List.mem_of_getElem? (i := 0) (by decide +kernel)) (by decide +kernel)
theorem st_202 : Cond.static (xnm 202) ∈ xWds := xW1 (List.mem_of_getElem? (i := 631) (by decide +kernel)) (by decide +kernel)
theorem nm_202 : (xnm 202).cls ≠ "java/lang/invoke/MethodHandle" ∧ (xnm 202).cls ≠ "java/lang/invoke/VarHandle" ∧ (parseMethodDescriptor (xnm 202).desc).map (fun d => d.parameters.length) = some 4 := by decide +kernel
theorem cw_203 : xcw 203 = Cond.codeWith (xnm 203) cL_text 7 (some .int) [(0, 14, 17, 24)] := rfl
theorem cm_203 : xcw 203 ∈ xWds := xW1 (List.mem_of_getElem? (i := 648) (by decide +kernel)) (by decide +kernel)
theorem ini_203 : Cond.initialized (xnm 203).cls ∈ xWds := xW1 (List.mem_of_getElem? (i := 0) (by decide +kernel)) (by decide +kernel)
theorem st_203 : Cond.static (xnm 203) ∈ xWds := xW1 (List.mem_of_getElem? (i := 647) (by decide +kernel)) (by decide +kernel)
theorem nm_203 : (xnm 203).cls ≠ "java/lang/invoke/MethodHandle" ∧ (xnm 203).cls ≠ "java/lang/invoke/VarHandle" ∧ (parseMethodDescriptor (xnm 203).desc).map (fun d => d.parameters.length) = some 6 := by decide +kernel
theorem cw_204 : xcw 204 = Cond.codeWith (xnm 204) cL_profile 4 (some .int) [(0, 9, 12, 13), (0, 9, 15, 15)] := rfl
theorem cm_204 : xcw 204 ∈ xWds := xW1 (List.mem_of_getElem? (i := 862) (by decide +kernel)) (by decide +kernel)
theorem ini_204 : Cond.initialized (xnm 204).cls ∈ xWds := xW1 (List.mem_of_getElem? (i := 0) (by decide +kernel)) (by decide +kernel)
theorem st_204 : Cond.static (xnm 204) ∈ xWds := xW1 (List.mem_of_getElem? (i := 861) (by decide +kernel)) (by decide +kernel)
theorem nm_204 : (xnm 204).cls ≠ "java/lang/invoke/MethodHandle" ∧ (xnm 204).cls ≠ "java/lang/invoke/VarHandle" ∧ (parseMethodDescriptor (xnm 204).desc).map (fun d => d.parameters.length) = some 3 := by decide +kernel
theorem cw_205 : xcw 205 = Cond.codeWith (xnm 205) cL_depth 5 (some .int) [(0, 10, 13, 24), (0, 10, 17, 13), (0, 10, 21, 15)] := rfl
theorem cm_205 : xcw 205 ∈ xWds := xW1 (List.mem_of_getElem? (i := 887) (by decide +kernel)) (by decide +kernel)
theorem ini_205 : Cond.initialized (xnm 205).cls ∈ xWds := xW1 (List.mem_of_getElem? (i := 0) (by decide +kernel)) (by decide +kernel)
theorem st_205 : Cond.static (xnm 205) ∈ xWds := xW1 (List.mem_of_getElem? (i := 886) (by decide +kernel)) (by decide +kernel)
theorem nm_205 : (xnm 205).cls ≠ "java/lang/invoke/MethodHandle" ∧ (xnm 205).cls ≠ "java/lang/invoke/VarHandle" ∧ (parseMethodDescriptor (xnm 205).desc).map (fun d => d.parameters.length) = some 4 := by decide +kernel
theorem cw_206 : xcw 206 = Cond.codeWith (xnm 206) cL_mitre 5 (some .int) [(0, 10, 13, 24)] := rfl
theorem cm_206 : xcw 206 ∈ xWds := xW1 (List.mem_of_getElem? (i := 912) (by decide +kernel)) (by decide +kernel)
theorem ini_206 : Cond.initialized (xnm 206).cls ∈ xWds := xW1 (List.mem_of_getElem? (i := 0) (by decide +kernel)) (by decide +kernel)
theorem st_206 : Cond.static (xnm 206) ∈ xWds := xW1 (List.mem_of_getElem? (i := 911) (by decide +kernel)) (by decide +kernel)
theorem nm_206 : (xnm 206).cls ≠ "java/lang/invoke/MethodHandle" ∧ (xnm 206).cls ≠ "java/lang/invoke/VarHandle" ∧ (parseMethodDescriptor (xnm 206).desc).map (fun d => d.parameters.length) = some 4 := by decide +kernel
theorem cw_207 : xcw 207 = Cond.codeWith (xnm 207) cL_fits 5 (some .int) [(0, 10, 13, 13)] := rfl
theorem cm_207 : xcw 207 ∈ xWds := xW1 (List.mem_of_getElem? (i := 930) (by decide +kernel)) (by decide +kernel)
theorem ini_207 : Cond.initialized (xnm 207).cls ∈ xWds := xW1 (List.mem_of_getElem? (i := 0) (by decide +kernel)) (by decide +kernel)
theorem st_207 : Cond.static (xnm 207) ∈ xWds := xW1 (List.mem_of_getElem? (i := 929) (by decide +kernel)) (by decide +kernel)
theorem nm_207 : (xnm 207).cls ≠ "java/lang/invoke/MethodHandle" ∧ (xnm 207).cls ≠ "java/lang/invoke/VarHandle" ∧ (parseMethodDescriptor (xnm 207).desc).map (fun d => d.parameters.length) = some 4 := by decide +kernel
theorem cw_208 : xcw 208 = Cond.codeWith (xnm 208) cL_step 5 (some .int) [(0, 10, 13, 13)] := rfl
theorem cm_208 : xcw 208 ∈ xWds := xW1 (List.mem_of_getElem? (i := 946) (by decide +kernel)) (by decide +kernel)
theorem ini_208 : Cond.initialized (xnm 208).cls ∈ xWds := xW1 (List.mem_of_getElem? (i := 0) (by decide +kernel)) (by decide +kernel)
theorem st_208 : Cond.static (xnm 208) ∈ xWds := xW1 (List.mem_of_getElem? (i := 945) (by decide +kernel)) (by decide +kernel)
theorem nm_208 : (xnm 208).cls ≠ "java/lang/invoke/MethodHandle" ∧ (xnm 208).cls ≠ "java/lang/invoke/VarHandle" ∧ (parseMethodDescriptor (xnm 208).desc).map (fun d => d.parameters.length) = some 4 := by decide +kernel
theorem cw_209 : xcw 209 = Cond.codeWith (xnm 209) cL_cut 6 (some .int) [(0, 12, 15, 13)] := rfl
theorem cm_209 : xcw 209 ∈ xWds := xW1 (List.mem_of_getElem? (i := 953) (by decide +kernel)) (by decide +kernel)
theorem ini_209 : Cond.initialized (xnm 209).cls ∈ xWds := xW1 (List.mem_of_getElem? (i := 0) (by decide +kernel)) (by decide +kernel)
theorem st_209 : Cond.static (xnm 209) ∈ xWds := xW1 (List.mem_of_getElem? (i := 952) (by decide +kernel)) (by decide +kernel)
theorem nm_209 : (xnm 209).cls ≠ "java/lang/invoke/MethodHandle" ∧ (xnm 209).cls ≠ "java/lang/invoke/VarHandle" ∧ (parseMethodDescriptor (xnm 209).desc).map (fun d => d.parameters.length) = some 5 := by decide +kernel
theorem cw_210 : xcw 210 = Cond.codeWith (xnm 210) cL_window 5 (some .int) [(0, 10, 13, 24), (0, 10, 17, 13)] := rfl
theorem cm_210 : xcw 210 ∈ xWds := xW1 (List.mem_of_getElem? (i := 965) (by decide +kernel)) (by decide +kernel)
theorem ini_210 : Cond.initialized (xnm 210).cls ∈ xWds := xW1 (List.mem_of_getElem? (i := 0) (by decide +kernel)) (by decide +kernel)
theorem st_210 : Cond.static (xnm 210) ∈ xWds := xW1 (List.mem_of_getElem? (i := 964) (by decide +kernel)) (by decide +kernel)
theorem nm_210 : (xnm 210).cls ≠ "java/lang/invoke/MethodHandle" ∧ (xnm 210).cls ≠ "java/lang/invoke/VarHandle" ∧ (parseMethodDescriptor (xnm 210).desc).map (fun d => d.parameters.length) = some 4 := by decide +kernel
theorem cw_211 : xcw 211 = Cond.codeWith (xnm 211) cL_patch 5 (some .int) [(0, 9, 12, 13), (0, 9, 16, 15)] := rfl
theorem cm_211 : xcw 211 ∈ xWds := xW1 (List.mem_of_getElem? (i := 984) (by decide +kernel)) (by decide +kernel)
theorem ini_211 : Cond.initialized (xnm 211).cls ∈ xWds := xW1 (List.mem_of_getElem? (i := 0) (by decide +kernel)) (by decide +kernel)
theorem st_211 : Cond.static (xnm 211) ∈ xWds := xW1 (List.mem_of_getElem? (i := 983) (by decide +kernel)) (by decide +kernel)
theorem nm_211 : (xnm 211).cls ≠ "java/lang/invoke/MethodHandle" ∧ (xnm 211).cls ≠ "java/lang/invoke/VarHandle" ∧ (parseMethodDescriptor (xnm 211).desc).map (fun d => d.parameters.length) = some 3 := by decide +kernel
theorem cw_212 : xcw 212 = Cond.codeWith (xnm 212) cL_paint 8 (some .int) [(0, 14, 17, 24), (0, 14, 21, 15)] := rfl
theorem cm_212 : xcw 212 ∈ xWds := xW1 (List.mem_of_getElem? (i := 1028) (by decide +kernel)) (by decide +kernel)
theorem ini_212 : Cond.initialized (xnm 212).cls ∈ xWds := xW1 (List.mem_of_getElem? (i := 0) (by decide +kernel)) (by decide +kernel)
theorem st_212 : Cond.static (xnm 212) ∈ xWds := xW1 (List.mem_of_getElem? (i := 1027) (by decide +kernel)) (by decide +kernel)
theorem nm_212 : (xnm 212).cls ≠ "java/lang/invoke/MethodHandle" ∧ (xnm 212).cls ≠ "java/lang/invoke/VarHandle" ∧ (parseMethodDescriptor (xnm 212).desc).map (fun d => d.parameters.length) = some 6 := by decide +kernel
theorem cw_213 : xcw 213 = Cond.codeWith (xnm 213) cL_ofCell 5 (some .int) [(0, 10, 13, 24), (0, 10, 17, 13)] := rfl
theorem cm_213 : xcw 213 ∈ xWds := xW1 (List.mem_of_getElem? (i := 1046) (by decide +kernel)) (by decide +kernel)
theorem ini_213 : Cond.initialized (xnm 213).cls ∈ xWds := xW1 (List.mem_of_getElem? (i := 0) (by decide +kernel)) (by decide +kernel)
theorem st_213 : Cond.static (xnm 213) ∈ xWds := xW1 (List.mem_of_getElem? (i := 1045) (by decide +kernel)) (by decide +kernel)
theorem nm_213 : (xnm 213).cls ≠ "java/lang/invoke/MethodHandle" ∧ (xnm 213).cls ≠ "java/lang/invoke/VarHandle" ∧ (parseMethodDescriptor (xnm 213).desc).map (fun d => d.parameters.length) = some 4 := by decide +kernel
theorem cw_214 : xcw 214 = Cond.codeWith (xnm 214) cL_over 4 (some .int) [(0, 9, 12, 24)] := rfl
theorem cm_214 : xcw 214 ∈ xWds := xW1 (List.mem_of_getElem? (i := 1066) (by decide +kernel)) (by decide +kernel)
theorem ini_214 : Cond.initialized (xnm 214).cls ∈ xWds := xW1 (List.mem_of_getElem? (i := 0) (by decide +kernel)) (by decide +kernel)
theorem st_214 : Cond.static (xnm 214) ∈ xWds := xW1 (List.mem_of_getElem? (i := 1065) (by decide +kernel)) (by decide +kernel)
theorem nm_214 : (xnm 214).cls ≠ "java/lang/invoke/MethodHandle" ∧ (xnm 214).cls ≠ "java/lang/invoke/VarHandle" ∧ (parseMethodDescriptor (xnm 214).desc).map (fun d => d.parameters.length) = some 3 := by decide +kernel
theorem cw_215 : xcw 215 = Cond.codeWith (xnm 215) cL_tells 9 (some .int) [(0, 18, 21, 13)] := rfl
theorem cm_215 : xcw 215 ∈ xWds := xW1 (List.mem_of_getElem? (i := 1077) (by decide +kernel)) (by decide +kernel)
theorem ini_215 : Cond.initialized (xnm 215).cls ∈ xWds := xW1 (List.mem_of_getElem? (i := 0) (by decide +kernel)) (by decide +kernel)
theorem st_215 : Cond.static (xnm 215) ∈ xWds := xW1 (List.mem_of_getElem? (i := 1076) (by decide +kernel)) (by decide +kernel)
theorem nm_215 : (xnm 215).cls ≠ "java/lang/invoke/MethodHandle" ∧ (xnm 215).cls ≠ "java/lang/invoke/VarHandle" ∧ (parseMethodDescriptor (xnm 215).desc).map (fun d => d.parameters.length) = some 8 := by decide +kernel
theorem cw_216 : xcw 216 = Cond.codeWith (xnm 216) cL_bill 6 (some .int) [(0, 12, 15, 24), (0, 12, 19, 13)] := rfl
theorem cm_216 : xcw 216 ∈ xWds := xW1 (List.mem_of_getElem? (i := 1089) (by decide +kernel)) (by decide +kernel)
theorem ini_216 : Cond.initialized (xnm 216).cls ∈ xWds := xW1 (List.mem_of_getElem? (i := 0) (by decide +kernel)) (by decide +kernel)
theorem st_216 : Cond.static (xnm 216) ∈ xWds := xW1 (List.mem_of_getElem? (i := 1088) (by decide +kernel)) (by decide +kernel)
theorem nm_216 : (xnm 216).cls ≠ "java/lang/invoke/MethodHandle" ∧ (xnm 216).cls ≠ "java/lang/invoke/VarHandle" ∧ (parseMethodDescriptor (xnm 216).desc).map (fun d => d.parameters.length) = some 5 := by decide +kernel
