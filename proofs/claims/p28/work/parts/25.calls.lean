/-! calls -/
theorem xPre {D : va_G} {dA : Nat → ClassId} {sz0 : Nat} {κ : Nat → Nat} {ah : xH} {s : State} {H : Heap} {locs : List Loc} (as : List Value) (hIn : xIn D dA sz0 κ s) (hS : va_S (xA sz0) s.heap H locs) (hH : xHR D dA sz0 ah H) : ∀ U : State, U.heap = H → s.WarmedH U.vm → xPc D dA sz0 κ as ah as.toArray U := by
  intro U hU hW
  obtain ⟨h1, h2, h3, h4⟩ := hIn
  refine ⟨rfl, by rw [hU]; exact hH, by rw [hU]; exact Nat.le_trans h1 hS.1, va_K.moved hW.alike h2, ?_, h4.moved hW⟩
  rw [hU]
  exact (h3.kept hS.2.1).moved hW.alike
theorem xCallW {p : Program} {l : Launch} {e : Env} {R : Room} {s : State} {m : MethodId} {args : Array Value} {below : List Frame} {meth : Method} {c : Code} {H : Heap} {locs : List Loc} {cells slots mc ms pc : Nat} {ls : Array Slot} {st0 rest : List Value} {Q : State → Prop} {D : va_G} {dA : Nat → ClassId} {sz0 : Nat} {Rc : xR → xH → Prop} {aa : Array Value}
    (hr : vx_Run p l e R s m args below meth c H locs cells slots mc ms (F0 m pc ls st0) rest (xQc D dA sz0 Rc aa) (xXC D dA sz0 Rc) (xA sz0)) (hS : va_S (xA sz0) s.heap H locs)
    (kk : ∀ (v : Option Value) (ah' : xH) (H1 : Heap) (locs1 : List Loc), Rc (.inl v) ah' → xHR D dA sz0 ah' H1 → va_S (xA sz0) s.heap H1 locs1 → W p l e R s m args below meth c H1 locs1 (cells + mc) (slots + ms) Q (F0 m (pc + 3) ls (v.toList ++ rest)))
    (kx : ∀ (n : Nat) (ah' : xH) (H1 : Heap) (locs1 : List Loc) (q : Addr) (ce : Cell), n < 3 → Rc (.inr n) ah' → xHR D dA sz0 ah' H1 → va_S (xA sz0) s.heap H1 locs1 → H1[q]? = some ce → ce.vm = .none → s.vm.findClass (xEx n) = some ce.cls → vx_W p l e R s m args below meth c H1 locs1 (cells + mc) (slots + ms) Q (F0 m pc ls rest) q) :
    W p l e R s m args below meth c H locs cells slots Q (F0 m pc ls st0) := by
  intro T hT X
  rcases hr T hT X with ⟨v, st₀, t, T', L, h0, X', hL, e1, e2, ⟨⟨r, ah', hv, hp, hb⟩, hF⟩, st⟩ | ⟨q, st₀, t, T', L, E, ce, h0, X', hL, e1, e2, ⟨⟨n, ah', hE, hn, hp, hb⟩, hF⟩, hce, hcv, hcl, st⟩
  · cases hv
    obtain ⟨k1, k2, k3⟩ := vx_keep h0 e1 hS (fun _ _ h => h) (fun _ h => h) hL hF
    obtain ⟨t2, a1, b1⟩ := kk v ah' T'.heap (locs ++ L) hp (by rw [e1]; exact hb) k3 T' rfl X'
    exact ⟨t2, st t2 a1, b1⟩
  · subst hE
    obtain ⟨k1, k2, k3⟩ := vx_keep h0 e1 hS (fun _ _ h => h) (fun _ h => h) hL hF
    obtain ⟨t2, a1, b1⟩ := kx n ah' T'.heap (locs ++ L) q ce hn hp (by rw [e1]; exact hb) k3 (by rw [e1]; exact hce) hcv hcl T' rfl X'
    exact ⟨t2, st.trans a1, b1⟩
/-- which handler takes the exception n at pc -/
def xCat (own : String) (hh : List (Nat × Nat × Nat × Nat)) (pc n h : Nat) : Prop := ∃ (pre : List ExceptionTableEntry) (x : ExceptionTableEntry) (suf : List ExceptionTableEntry) (nm : String), tableOf hh = pre ++ x :: suf ∧ x.handlerPc = h ∧ covers x pc = true ∧ x.catchType ≠ 0 ∧ Cond.classLink own x.catchType nm ∈ xWds ∧ (xEx n, nm) ∈ xCasts ∧ ∀ z ∈ pre, covers z pc = false ∨ (z.catchType ≠ 0 ∧ ∃ nm : String, Cond.classLink own z.catchType nm ∈ xWds ∧ (xEx n, nm) ∈ xNots)
section CALLS
variable {l : Launch} {D : va_G} {dA : Nat → ClassId} {sz0 : Nat} {κ : Nat → Nat} {cc : ByteArray} {own : String} {nL : Nat} {hh : List (Nat × Nat × Nat × Nat)} {fr lo : Nat} {Fn : xFn} {pc : Nat}
/-- the method's frame behind a call of y: what the kit's run says -/
def xRunOK (l : Launch) (D : va_G) (dA : Nat → ClassId) (sz0 : Nat) (κ : Nat → Nat) (cc : ByteArray) (own : String) (nL : Nat) (hh : List (Nat × Nat × Nat × Nat)) (fr lo : Nat) (gd : List Value → xH → Prop) (y na pc : Nat) : Prop :=
  ∀ (p : Program) (e : Env) (R : Room) (s : State) (m : MethodId) (args : Array Value) (below : List Frame) (meth : Method) (c : Code) (H : Heap) (locs : List Loc) (L : Array Slot) (cells slots : Nat) (as rest : List Value) (ah : xH) (Rc : xR → xH → Prop),
    xCx l D dA sz0 κ cc own nL hh p s m args meth c → fr ≤ R.frames → lo ≤ R.locals → xHR D dA sz0 ah H → va_S (xA sz0) s.heap H locs → L.size = nL → cells + xmc y ≤ R.cells → slots + xms y ≤ R.slots → gd as ah → as.length = na → (rest.map Value.category).sum ≤ 8 → xMet l D dA sz0 κ y as ah Rc →
    vx_Run p l e R s m args below meth c H locs cells slots (xmc y) (xms y) (F0 m pc L (as.reverse ++ rest)) rest (xQc D dA sz0 Rc as.toArray) (xXC D dA sz0 Rc) (xA sz0)
theorem sn_callOf {ret : Option FieldType} {nm : String} {gd : List Value → xH → Prop} {y na : Nat} (hh0 : hh = []) (hr : xRunOK l D dA sz0 κ cc own nL hh fr lo gd y na pc) : xSnd l D dA sz0 κ cc own nL hh fr lo (xFm D dA sz0 ret nm) pc (iCall gd y na (xmc y) (xms y) (pc + 3)) := by
  intro p e R s m args below meth c Q Rr P ls st ah k n C hfr hlo hFn hP h H locs L cells slots hH hS hL hk hn
  obtain ⟨⟨ha, hsum, hg⟩, ⟨hk1, hn1⟩, Rc, hM, hK⟩ := h
  dsimp only at hk hn
  have hst : st = (st.take na).reverse.reverse ++ st.drop na := by rw [List.reverse_reverse, List.take_append_drop]
  have hrun := hr p e R s m args below meth c H locs L cells slots (st.take na).reverse (st.drop na) ah Rc C hfr hlo hH hS hL.1 (by omega) (by omega) hg (by rw [List.length_reverse, List.length_take]; omega) hsum hM
  rw [← hst] at hrun
  obtain ⟨hx, hb, hml, hown, hts, hIn, hsT, hlk, htb⟩ := C
  refine xCallW hrun hS (fun v ah' H1 locs1 hv hH1 hS1 => ?_) (fun j ah' H1 locs1 q ce hj hv hH1 hS1 hce hcv hcl => ?_)
  · have h9 := hK _ _ hv
    cases v with
    | none => exact hP _ h9 H1 locs1 L _ _ hH1 hS1 hL (by dsimp only; omega) (by dsimp only; omega)
    | some v => exact hP _ h9 H1 locs1 L _ _ hH1 hS1 hL (by dsimp only; omega) (by dsimp only; omega)
  · have h9 : Rr (.inr j) ah' := hK _ _ hv
    obtain ⟨rfl, hret, hnm⟩ := hFn
    exact vx_out (by rw [htb, hh0]; exact fun _ hx => nomatch hx) hlk hce hcv hcl (fun t ht hW => ⟨⟨j, ah', rfl, hj, h9, by rw [ht]; exact hH1⟩, hS1.F ht⟩) hS1.2.2 (by omega) (by omega)
theorem sn_callHOf {gd : List Value → xH → Prop} {y na : Nat} {hd : Nat → Option Nat} (hr : xRunOK l D dA sz0 κ cc own nL hh fr lo gd y na pc) (hcat : ∀ n h, n < 3 → hd n = some h → xCat own hh pc n h) : xSnd l D dA sz0 κ cc own nL hh fr lo Fn pc (iCallH gd y na (xmc y) (xms y) (pc + 3) hd) := by
  intro p e R s m args below meth c Q Rr P ls st ah k n C hfr hlo hFn hP h H locs L cells slots hH hS hL hk hn
  obtain ⟨⟨ha, hsum, hg⟩, ⟨hk1, hn1⟩, Rc, hM, hK⟩ := h
  dsimp only at hk hn
  have hst : st = (st.take na).reverse.reverse ++ st.drop na := by rw [List.reverse_reverse, List.take_append_drop]
  have hrun := hr p e R s m args below meth c H locs L cells slots (st.take na).reverse (st.drop na) ah Rc C hfr hlo hH hS hL.1 (by omega) (by omega) hg (by rw [List.length_reverse, List.length_take]; omega) hsum hM
  rw [← hst] at hrun
  obtain ⟨hx, hb, hml, hown, hts, hIn, hsT, hlk, htb⟩ := C
  refine xCallW hrun hS (fun v ah' H1 locs1 hv hH1 hS1 => ?_) (fun j ah' H1 locs1 q ce hj hv hH1 hS1 hce hcv hcl => ?_)
  · have h9 := hK _ _ hv
    cases v with
    | none => exact hP _ h9 H1 locs1 L _ _ hH1 hS1 hL (by dsimp only; omega) (by dsimp only; omega)
    | some v => exact hP _ h9 H1 locs1 L _ _ hH1 hS1 hL (by dsimp only; omega) (by dsimp only; omega)
  · obtain ⟨t, ht, h9⟩ := hK _ _ hv
    obtain ⟨pre, x, suf, nm, c1, c2, c3, c4, c5, c6, c7⟩ := hcat j t hj ht
    refine vx_catch hown pre x suf (by rw [htb]; exact c1) (fun z hz => ?_) c3 c4 (hts _ c5) (va_Nw.use rfl (hIn.2.2.2.1 _ c6)) hce hcv hcl ?_
    · rcases c7 z hz with c | ⟨c, nm2, c8, c9⟩
      · exact Or.inl c
      · exact Or.inr ⟨c, nm2, hts _ c8, hIn.2.2.2.2.1 _ c9⟩
    · rw [c2]
      exact hP _ (h9 q) H1 locs1 L _ _ hH1 hS1 hL (by dsimp only; omega) (by dsimp only; omega)
variable {y na idx maxL : Nat} {ret : Option FieldType} {bytes : ByteArray}
theorem xGIy (hcw : xcw y ∈ xWds) {pre : List Cond} (h1 : ∀ w ∈ pre, w ∈ xWds) : GoodIn xWds (pre ++ xws y) := xGI h1 hcw
theorem xws_eq : xws y = xcw y :: xWds := rfl
/-- invokestatic -/
theorem run_S (hcw : xcw y = Cond.code (xnm y) bytes maxL ret) (hcm : xcw y ∈ xWds) (hw1 : Cond.methodLink own idx (xnm y) ∈ xWds) (hw2 : Cond.static (xnm y) ∈ xWds) (hw3 : Cond.initialized (xnm y).cls ∈ xWds) (hy : (xnm y).cls ≠ "java/lang/invoke/MethodHandle" ∧ (xnm y).cls ≠ "java/lang/invoke/VarHandle" ∧ (parseMethodDescriptor (xnm y).desc).map (fun d => d.parameters.length) = some na) (hR : xfr y + 1 ≤ fr ∧ 8 + (maxL + 11) + xlo y ≤ lo) (hd : decode cc pc = .ok (.invokestatic idx, 3)) : xRunOK l D dA sz0 κ cc own nL hh fr lo xgN y na pc := by
  intro p e R s m args below meth c H locs L cells slots as rest ah Rc C hfr hlo hH hS hsz hc1 hs1 hg hna hsum hM
  obtain ⟨hx, hb, hml, hown, hts, hIn, hsT, hlk, htb⟩ := C
  have hG : GoodIn xWds (va_wsS own idx (xnm y) (xws y)) := xGIy hcm (fun w hw => by
    simp only [List.mem_cons, List.not_mem_nil, or_false] at hw
    rcases hw with rfl | rfl | rfl
    · exact hw1
    · exact hw2
    · exact hw3)
  exact vx_runS (n := na) (Ts := xWds) ⟨hx, hb, hml, hown, hts⟩ hM (va_cwS (ws' := xWds) na hts hG (by rw [xws_eq, hcw]) rfl rfl hy ⟨by show xfr y + 1 ≤ R.frames; omega, by show 8 + (maxL + 11) + xlo y ≤ R.locals; omega⟩) ⟨xPc_blind, xPre as hIn hS hH⟩ rfl hna hsz rfl (lv_room hsum) hd ⟨hc1, hs1⟩
theorem run_SX {hhy : List (Nat × Nat × Nat × Nat)} (hcw : xcw y = Cond.codeWith (xnm y) bytes maxL ret hhy) (hcm : xcw y ∈ xWds) (hw1 : Cond.methodLink own idx (xnm y) ∈ xWds) (hw2 : Cond.static (xnm y) ∈ xWds) (hw3 : Cond.initialized (xnm y).cls ∈ xWds) (hy : (xnm y).cls ≠ "java/lang/invoke/MethodHandle" ∧ (xnm y).cls ≠ "java/lang/invoke/VarHandle" ∧ (parseMethodDescriptor (xnm y).desc).map (fun d => d.parameters.length) = some na) (hR : xfr y + 1 ≤ fr ∧ 8 + (maxL + 11) + xlo y ≤ lo) (hd : decode cc pc = .ok (.invokestatic idx, 3)) : xRunOK l D dA sz0 κ cc own nL hh fr lo xgN y na pc := by
  intro p e R s m args below meth c H locs L cells slots as rest ah Rc C hfr hlo hH hS hsz hc1 hs1 hg hna hsum hM
  obtain ⟨hx, hb, hml, hown, hts, hIn, hsT, hlk, htb⟩ := C
  have hG : GoodIn xWds (va_wsS own idx (xnm y) (xws y)) := xGIy hcm (fun w hw => by
    simp only [List.mem_cons, List.not_mem_nil, or_false] at hw
    rcases hw with rfl | rfl | rfl
    · exact hw1
    · exact hw2
    · exact hw3)
  exact vx_runSX (n := na) (Ts := xWds) ⟨hx, hb, hml, hown, hts⟩ hM (vx_cwSW (ws' := xWds) na hts hG (by rw [xws_eq, hcw]) rfl rfl hy ⟨by show xfr y + 1 ≤ R.frames; omega, by show 8 + (maxL + 11) + xlo y ≤ R.locals; omega⟩) ⟨xPc_blind, xPre as hIn hS hH⟩ rfl hna hsz rfl (lv_room hsum) hd ⟨hc1, hs1⟩
/-- a private static method of the nest -/
theorem run_SN {host : String} (hcw : xcw y = Cond.code (xnm y) bytes maxL ret) (hcm : xcw y ∈ xWds) (hw1 : ∀ U, xGw κ U → va_Nw (.methodLinkNest own idx (xnm y) host) U) (hw2 : Cond.static (xnm y) ∈ xWds) (hw3 : Cond.initialized (xnm y).cls ∈ xWds) (hy : (xnm y).cls ≠ "java/lang/invoke/MethodHandle" ∧ (xnm y).cls ≠ "java/lang/invoke/VarHandle" ∧ (parseMethodDescriptor (xnm y).desc).map (fun d => d.parameters.length) = some na) (hR : xfr y + 1 ≤ fr ∧ 8 + (maxL + 11) + xlo y ≤ lo) (hd : decode cc pc = .ok (.invokestatic idx, 3)) : xRunOK l D dA sz0 κ cc own nL hh fr lo xgN y na pc := by
  intro p e R s m args below meth c H locs L cells slots as rest ah Rc C hfr hlo hH hS hsz hc1 hs1 hg hna hsum hM
  obtain ⟨hx, hb, hml, hown, hts, hIn, hsT, hlk, htb⟩ := C
  have hG : GoodIn xWds (xws y) := xGIy (pre := []) hcm (fun w hw => nomatch hw)
  exact vx_runSN (n := na) (Ts := xWds) ⟨hx, hb, hml, hown, hts⟩ hM ⟨va_cnB (ws' := xWds) na hts hG (by rw [xws_eq, hcw]) rfl rfl (hw1 s hIn.2.2.2) (hts _ hw3) hy ⟨by show xfr y + 1 ≤ R.frames; omega, by show 8 + (maxL + 11) + xlo y ≤ R.locals; omega⟩, hts _ hw2, trivial⟩ ⟨xPc_blind, xPre as hIn hS hH⟩ rfl hna hsz rfl (lv_room hsum) hd ⟨hc1, hs1⟩
/-- invokespecial of a constructor -/
theorem run_I (hcw : xcw y = Cond.code (xnm y) bytes maxL none) (hcm : xcw y ∈ xWds) (hw1 : Cond.methodLink own idx (xnm y) ∈ xWds) (hw2 : Cond.instanceMethod (xnm y) ∈ xWds) (hw3 : Cond.initialized (xnm y).cls ∈ xWds) (hin : (xnm y).name = "<init>") (hy : (xnm y).cls ≠ "java/lang/invoke/MethodHandle" ∧ (xnm y).cls ≠ "java/lang/invoke/VarHandle" ∧ (parseMethodDescriptor (xnm y).desc).map (fun d => d.parameters.length) = some na) (hR : xfr y + 1 ≤ fr ∧ 8 + (maxL + 11) + xlo y ≤ lo) (hd : decode cc pc = .ok (.invokespecial idx, 3)) : xRunOK l D dA sz0 κ cc own nL hh fr lo xgR y (na + 1) pc := by
  intro p e R s m args below meth c H locs L cells slots as rest ah Rc C hfr hlo hH hS hsz hc1 hs1 hg hna hsum hM
  obtain ⟨hx, hb, hml, hown, hts, hIn, hsT, hlk, htb⟩ := C
  rcases as with _ | ⟨v, as⟩
  · exact False.elim hg
  cases v <;> try (simp only [xgR] at hg; done)
  rename_i b
  have hG : GoodIn xWds (xws y) := xGIy (pre := []) hcm (fun w hw => nomatch hw)
  have hst : (Value.ref b :: as).reverse ++ rest = as.reverse ++ .ref b :: rest := by simp
  exact vx_runI (n := na) (Ts := xWds) ⟨hx, hb, hml, hown, hts⟩ hM ⟨callB_of (ws' := xWds) na hts hG (by rw [xws_eq, hcw]) rfl rfl (hts _ hw3) (hts _ hw1) hy ⟨by show xfr y + 1 ≤ R.frames; omega, by show 8 + (maxL + 11) + xlo y ≤ R.locals; omega⟩, hin, hts _ hw2⟩ ⟨xPc_blind, xPre _ hIn hS hH⟩ rfl (by simpa using hna) hsz hst (lv_room hsum) hd ⟨hc1, hs1⟩
/-- who receives a call: its class -/
theorem xrecv {ci : Nat} {C : String} {T : u_T} {N : Nat} (hc : vwCl[ci]? = some (C, T, N)) {s : State} {ah : xH} {H : Heap} {b : Nat} (hK : va_K D vwCl (xtys dA) s) (hH : xHR D dA sz0 ah H) (h : xis ah b ci) : ∃ cell : Cell, H[b]? = some cell ∧ cell.vm.isStatics = false ∧ s.vm.findClass C = some cell.cls := by
  obtain ⟨fs, hf⟩ := h
  obtain ⟨ws, j, hP0, hD0, hj, -, -⟩ := xHR_at hH hf
  exact va_recv hK hP0 hc hj
/-- invokevirtual of a method of the receiver's own class -/
theorem run_V {ci : Nat} {T : u_T} {N : Nat} (hc : vwCl[ci]? = some ((xnm y).cls, T, N)) (hcw : xcw y = Cond.code (xnm y) bytes maxL ret) (hcm : xcw y ∈ xWds) (hw1 : Cond.methodLink own idx (xnm y) ∈ xWds) (hw2 : Cond.instanceMethod (xnm y) ∈ xWds) (hw4 : Cond.selects (xnm y).cls (xnm y) (xnm y) ∈ xWds) (hw3 : Cond.initialized (xnm y).cls ∈ xWds) (hy : (xnm y).cls ≠ "java/lang/invoke/MethodHandle" ∧ (xnm y).cls ≠ "java/lang/invoke/VarHandle" ∧ (parseMethodDescriptor (xnm y).desc).map (fun d => d.parameters.length) = some na) (hR : xfr y + 1 ≤ fr ∧ 8 + (maxL + 11) + xlo y ≤ lo) (hd : decode cc pc = .ok (.invokevirtual idx, 3)) : xRunOK l D dA sz0 κ cc own nL hh fr lo (xgV ci) y (na + 1) pc := by
  intro p e R s m args below meth c H locs L cells slots as rest ah Rc C hfr hlo hH hS hsz hc1 hs1 hg hna hsum hM
  obtain ⟨hx, hb, hml, hown, hts, hIn, hsT, hlk, htb⟩ := C
  rcases as with _ | ⟨v, as⟩
  · exact False.elim hg
  cases v <;> try (simp only [xgV] at hg; done)
  rename_i b
  have hG : GoodIn xWds (wsV own idx (xnm y).cls (xnm y) (xws y)) := xGIy hcm (fun w hw => by
    simp only [List.mem_cons, List.not_mem_nil, or_false] at hw
    rcases hw with rfl | rfl | rfl | rfl
    · exact hw1
    · exact hw2
    · exact hw4
    · exact hw3)
  have hst : (Value.ref b :: as).reverse ++ rest = as.reverse ++ .ref b :: rest := by simp
  exact vx_runV (n := na) (Ts := xWds) ⟨hx, hb, hml, hown, hts⟩ hM (cwV (ws' := xWds) na hts hG (by rw [xws_eq, hcw]) rfl rfl ⟨rfl, hy⟩ ⟨by show xfr y + 1 ≤ R.frames; omega, by show 8 + (maxL + 11) + xlo y ≤ R.locals; omega⟩) ⟨xPc_blind, xrecv hc hIn.2.1 hH hg, xPre _ hIn hS hH⟩ rfl (by simpa using hna) hsz hst (lv_room hsum) hd ⟨hc1, hs1⟩
/-- of a constant text -/
theorem run_VS {N9 b9 : Nat} (hT : ∀ (U : State) (H : Heap), xGh κ (xA sz0) U H → ∀ i, i < N9 → va_O "java/lang/String" (κ (b9 + i)) (xA sz0) U H) (hcl : (xnm y).cls = "java/lang/String") (hcw : xcw y = Cond.code (xnm y) bytes maxL ret) (hcm : xcw y ∈ xWds) (hw1 : Cond.methodLink own idx (xnm y) ∈ xWds) (hw2 : Cond.instanceMethod (xnm y) ∈ xWds) (hw4 : Cond.selects (xnm y).cls (xnm y) (xnm y) ∈ xWds) (hw3 : Cond.initialized (xnm y).cls ∈ xWds) (hy : (xnm y).cls ≠ "java/lang/invoke/MethodHandle" ∧ (xnm y).cls ≠ "java/lang/invoke/VarHandle" ∧ (parseMethodDescriptor (xnm y).desc).map (fun d => d.parameters.length) = some na) (hR : xfr y + 1 ≤ fr ∧ 8 + (maxL + 11) + xlo y ≤ lo) (hd : decode cc pc = .ok (.invokevirtual idx, 3)) : xRunOK l D dA sz0 κ cc own nL hh fr lo (xgS κ b9 N9) y (na + 1) pc := by
  intro p e R s m args below meth c H locs L cells slots as rest ah Rc C hfr hlo hH hS hsz hc1 hs1 hg hna hsum hM
  obtain ⟨hx, hb, hml, hown, hts, hIn, hsT, hlk, htb⟩ := C
  rcases as with _ | ⟨v, as⟩
  · exact False.elim hg
  cases v <;> try (simp only [xgS] at hg; done)
  rename_i b
  obtain ⟨i, hi, rfl⟩ := hg
  have hG : GoodIn xWds (wsV own idx (xnm y).cls (xnm y) (xws y)) := xGIy hcm (fun w hw => by
    simp only [List.mem_cons, List.not_mem_nil, or_false] at hw
    rcases hw with rfl | rfl | rfl | rfl
    · exact hw1
    · exact hw2
    · exact hw4
    · exact hw3)
  have hst : (Value.ref (κ (b9 + i)) :: as).reverse ++ rest = as.reverse ++ .ref (κ (b9 + i)) :: rest := by simp
  exact vx_runV (n := na) (Ts := xWds) ⟨hx, hb, hml, hown, hts⟩ hM (cwV (ws' := xWds) na hts hG (by rw [xws_eq, hcw]) rfl rfl ⟨rfl, hy⟩ ⟨by show xfr y + 1 ≤ R.frames; omega, by show 8 + (maxL + 11) + xlo y ≤ R.locals; omega⟩) ⟨xPc_blind, by rw [hcl]; exact va_Orecv (hT s s.heap hIn.2.2.1 i hi) hS, xPre _ hIn hS hH⟩ rfl (by simpa using hna) hsz hst (lv_room hsum) hd ⟨hc1, hs1⟩
/-- invokevirtual of an inherited method: the receiver's class is C, the method its superclass's -/
theorem run_U {ci : Nat} {C : String} {T : u_T} {N : Nat} (hc : vwCl[ci]? = some (C, T, N)) (hcw : xcw y = Cond.code (xnm y) bytes maxL ret) (hcm : xcw y ∈ xWds) (hw1 : Cond.methodLink own idx (xnm y) ∈ xWds) (hw5 : Cond.sameMethod (xnm y).cls (xnm y).cls (xnm y).name (xnm y).desc ∈ xWds) (hw4 : Cond.selects C (xnm y) (xnm y) ∈ xWds) (hw2 : Cond.instanceMethod (xnm y) ∈ xWds) (hw3 : Cond.initialized (xnm y).cls ∈ xWds) (hy : (xnm y).cls ≠ "java/lang/invoke/MethodHandle" ∧ (xnm y).cls ≠ "java/lang/invoke/VarHandle" ∧ (parseMethodDescriptor (xnm y).desc).map (fun d => d.parameters.length) = some na) (hR : xfr y + 1 ≤ fr ∧ 8 + (maxL + 11) + xlo y ≤ lo) (hd : decode cc pc = .ok (.invokevirtual idx, 3)) : xRunOK l D dA sz0 κ cc own nL hh fr lo (xgV ci) y (na + 1) pc := by
  intro p e R s m args below meth c H locs L cells slots as rest ah Rc C9 hfr hlo hH hS hsz hc1 hs1 hg hna hsum hM
  obtain ⟨hx, hb, hml, hown, hts, hIn, hsT, hlk, htb⟩ := C9
  rcases as with _ | ⟨v, as⟩
  · exact False.elim hg
  cases v <;> try (simp only [xgV] at hg; done)
  rename_i b
  have hG : GoodIn xWds (va_wsU own idx C (xnm y).cls (xnm y) (xnm y) (xws y)) := xGIy hcm (fun w hw => by
    simp only [List.mem_cons, List.not_mem_nil, or_false] at hw
    rcases hw with rfl | rfl | rfl | rfl | rfl
    · exact hw1
    · exact hw5
    · exact hw4
    · exact hw2
    · exact hw3)
  have hst : (Value.ref b :: as).reverse ++ rest = as.reverse ++ .ref b :: rest := by simp
  exact vx_runU (n := na) (Ts := xWds) ⟨hx, hb, hml, hown, hts⟩ hM (va_cwU (ws' := xWds) na hts hG (by rw [xws_eq, hcw]) rfl rfl rfl hy ⟨by show xfr y + 1 ≤ R.frames; omega, by show 8 + (maxL + 11) + xlo y ≤ R.locals; omega⟩) ⟨xPc_blind, xrecv hc hIn.2.1 hH hg, xPre _ hIn hS hH⟩ rfl (by simpa using hna) hsz hst (lv_room hsum) hd ⟨hc1, hs1⟩
/-- super.m(..) -/
theorem run_SU {ci : Nat} {C : String} {T : u_T} {N : Nat} (hc : vwCl[ci]? = some (C, T, N)) (hcw : xcw y = Cond.code (xnm y) bytes maxL ret) (hcm : xcw y ∈ xWds) (hw1 : Cond.methodLink own idx (xnm y) ∈ xWds) (hw5 : Cond.sameMethod (xnm y).cls (xnm y).cls (xnm y).name (xnm y).desc ∈ xWds) (hw4 : Cond.superclass own (xnm y).cls ∈ xWds) (hw2 : Cond.instanceMethod (xnm y) ∈ xWds) (hw3 : Cond.initialized (xnm y).cls ∈ xWds) (hy : (xnm y).name ≠ "<init>" ∧ (parseMethodDescriptor (xnm y).desc).map (fun d => d.parameters.length) = some na) (hR : xfr y + 1 ≤ fr ∧ 8 + (maxL + 11) + xlo y ≤ lo) (hd : decode cc pc = .ok (.invokespecial idx, 3)) : xRunOK l D dA sz0 κ cc own nL hh fr lo (xgV ci) y (na + 1) pc := by
  intro p e R s m args below meth c H locs L cells slots as rest ah Rc C9 hfr hlo hH hS hsz hc1 hs1 hg hna hsum hM
  obtain ⟨hx, hb, hml, hown, hts, hIn, hsT, hlk, htb⟩ := C9
  rcases as with _ | ⟨v, as⟩
  · exact False.elim hg
  cases v <;> try (simp only [xgV] at hg; done)
  rename_i b
  have hG : GoodIn xWds (va_wsSU own idx (xnm y) (xws y)) := xGIy hcm (fun w hw => by
    simp only [List.mem_cons, List.not_mem_nil, or_false] at hw
    rcases hw with rfl | rfl | rfl | rfl | rfl
    · exact hw1
    · exact hw5
    · exact hw4
    · exact hw2
    · exact hw3)
  have hst : (Value.ref b :: as).reverse ++ rest = as.reverse ++ .ref b :: rest := by simp
  exact vx_runSU (n := na) (Ts := xWds) (hIn.2.1.1 ci _ hc).2 ⟨hx, hb, hml, hown, hts⟩ hM (va_cwSU (ws' := xWds) na hts hG (by rw [xws_eq, hcw]) rfl rfl hy ⟨by show xfr y + 1 ≤ R.frames; omega, by show 8 + (maxL + 11) + xlo y ≤ R.locals; omega⟩) ⟨xPc_blind, xrecv hc hIn.2.1 hH hg, xPre _ hIn hS hH⟩ rfl (by simpa using hna) hsz hst (lv_room hsum) hd ⟨hc1, hs1⟩
end CALLS
