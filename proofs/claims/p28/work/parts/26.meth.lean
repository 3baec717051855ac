/-! a whole method: its table is what the machine does, so its pure meaning is its contract -/
def xbr (c : Nat) (f g : xT) : xT := fun pc => cond (Nat.ble pc c) (f pc) (g pc)
def xlf (a : Nat) (i : xI) : xT := fun pc => cond (Nat.beq pc a) i xStuck
theorem xbr_ok {S : Nat → xI → Prop} {c : Nat} {f g : xT} (hf : ∀ pc, S pc (f pc)) (hg : ∀ pc, S pc (g pc)) : ∀ pc, S pc (xbr c f g pc) := by
  intro pc
  unfold xbr
  cases Nat.ble pc c with
  | true => exact hf pc
  | false => exact hg pc
theorem xlf_ok {S : Nat → xI → Prop} {a : Nat} {i : xI} (hs : ∀ pc, S pc xStuck) (h : S a i) : ∀ pc, S pc (xlf a i pc) := by
  intro pc
  unfold xlf
  cases e : Nat.beq pc a with
  | true => rw [Nat.eq_of_beq_eq_true e]; exact h
  | false => exact hs pc
theorem xSnd_stuck {l : Launch} {D : va_G} {dA : Nat → ClassId} {sz0 : Nat} {κ : Nat → Nat} {cc : ByteArray} {own : String} {nL : Nat} {hh : List (Nat × Nat × Nat × Nat)} {fr lo : Nat} {Fn : xFn} : ∀ pc, xSnd l D dA sz0 κ cc own nL hh fr lo Fn pc xStuck := fun _ _ _ _ _ _ _ _ _ _ _ _ _ _ _ _ _ _ _ _ _ _ _ h => False.elim h
theorem xEnt_args : ∀ {vs : List Value} {n j i : Nat} {v : Value}, xg (xEnt vs n) i = some v → (j + i, v) ∈ lv_args j vs
  | [], n, j, i, v, h => by
    exfalso
    have : ∀ n i, xg (List.replicate n none) i ≠ some v := by
      intro n
      induction n with
      | zero => intro i; simp [xg]
      | succ n ih =>
        intro i
        rw [List.replicate_succ]
        cases i with
        | zero => simp [xg]
        | succ i => exact ih i
    exact this n i h
  | w :: vs, n, j, i, v, h => by
    unfold xEnt at h
    unfold lv_args
    by_cases hc : w.category = 2
    · rw [if_pos hc] at h ⊢
      match i, h with
      | 0, h => simp only [xg] at h; cases h; exact List.mem_cons_self
      | 1, h => simp [xg] at h
      | i + 2, h =>
        have := xEnt_args (j := j + 2) (i := i) (v := v) (vs := vs) h
        exact List.mem_cons_of_mem _ (by rw [show j + (i + 2) = j + 2 + i by omega]; exact this)
    · rw [if_neg hc] at h ⊢
      match i, h with
      | 0, h => simp only [xg] at h; cases h; exact List.mem_cons_self
      | i + 1, h =>
        have := xEnt_args (j := j + 1) (i := i) (v := v) (vs := vs) h
        exact List.mem_cons_of_mem _ (by rw [show j + (i + 1) = j + 1 + i by omega]; exact this)
theorem xEnt_LR {as : List Value} {n : Nat} (h : xfit as n) : xLR ((lg_sl as ++ List.replicate (n - (lg_sl as).length) Slot.unset).toArray) n (xEnt as n) := by
  have hl := lv_entry as (n := n) h
  refine ⟨hl.1, hl.2.1, fun q hq => hl.2.2 q ?_⟩
  obtain ⟨i, v⟩ := q
  have := xEnt_args (j := 0) (xas_mem.mp hq)
  rwa [Nat.zero_add] at this
section METH
variable {l : Launch} {D : va_G} {dA : Nat → ClassId} {sz0 : Nat} {κ : Nat → Nat}
theorem xW_at {cc : ByteArray} {own : String} {nL : Nat} {hh : List (Nat × Nat × Nat × Nat)} {fr lo : Nat} {Fn : xFn} {T : xT} (hs : ∀ pc, xSnd l D dA sz0 κ cc own nL hh fr lo Fn pc (T pc)) {p : Program} {e : Env} {R : Room} {s : State} {m : MethodId} {args : Array Value} {below : List Frame} {meth : Method} {c : Code} {Q : State → Prop} {Rr : xR → xH → Prop} (C : xCx l D dA sz0 κ cc own nL hh p s m args meth c) (hfr : fr ≤ R.frames) (hlo : lo ≤ R.locals) (hFn : Fn R s args below meth Rr Q) {f : xC} (h : xW T (xMet l D dA sz0 κ) Rr f) : xAt D dA sz0 nL p l e R s m args below meth c Q f :=
  h (xAt D dA sz0 nL p l e R s m args below meth c Q) (fun f hf => hs f.1 p e R s m args below meth c Q Rr _ f.2.1 f.2.2.1 f.2.2.2.1 f.2.2.2.2.1 f.2.2.2.2.2 C hfr hlo hFn (fun _ h => h) hf)
theorem xMeth (hst : l.stackTraces = false) {y : Nat} {cc : ByteArray} {ret : Option FieldType} {T : xT} (hcw : xcw y = Cond.code (xnm y) cc (xnL y) ret) (hpl : plainName (xnm y).cls = true) (hs : ∀ pc, xSnd l D dA sz0 κ cc (xnm y).cls (xnL y) [] (xfr y) (xlo y) (xFm D dA sz0 ret (xnm y).name) pc (T pc)) {as : List Value} {ah : xH} {Rr : xR → xH → Prop} (hfit : xfit as (xnL y)) (h : xW T (xMet l D dA sz0 κ) Rr (0, xEnt as (xnL y), [], ah, xmc y, xms y)) : xMet l D dA sz0 κ y as ah Rr := by
  refine vx_ofW (cc := cc) (maxL := xnL y) (ret := ret) (ws' := xWds) hpl (by rw [xws_eq, hcw]) ?_
  intro p e s m args below meth c s₁ B hml htab hv
  obtain ⟨rfl, hH, hIn⟩ := hv
  have hts := atoms_spec (ws := xws y) B.pre
  have C : xCx l D dA sz0 κ cc (xnm y).cls (xnL y) [] p s m as.toArray meth c := ⟨B.exec, B.bytes, hml, findClass_of_methodNamed B.named, fun w hw => hts w (List.mem_cons_of_mem _ hw), hIn, hst, B.notSynchronized, by
    cases hc : c.exceptionTable.toList with
    | nil => rfl
    | cons z zs => exact (htab z (by rw [hc]; exact List.mem_cons_self)).elim⟩
  rw [lg_entry_eq]
  exact xW_at (R := xrm y) hs C (Nat.le_refl _) (Nat.le_refl _) ⟨rfl, B.returns, (name_of_methodNamed B.named B.method).1⟩ h s.heap [] _ 0 0 hH va_S.rf (xEnt_LR hfit) (by show 0 + xmc y ≤ xmc y; omega) (by show 0 + xms y ≤ xms y; omega)
theorem xMethH (hst : l.stackTraces = false) {y : Nat} {cc : ByteArray} {ret : Option FieldType} {hh : List (Nat × Nat × Nat × Nat)} {T : xT} (hcw : xcw y = Cond.codeWith (xnm y) cc (xnL y) ret hh) (hpl : plainName (xnm y).cls = true) (hs : ∀ pc, xSnd l D dA sz0 κ cc (xnm y).cls (xnL y) hh (xfr y) (xlo y) (xFm D dA sz0 ret (xnm y).name) pc (T pc)) {as : List Value} {ah : xH} {Rr : xR → xH → Prop} (hfit : xfit as (xnL y)) (h : xW T (xMet l D dA sz0 κ) Rr (0, xEnt as (xnL y), [], ah, xmc y, xms y)) : xMet l D dA sz0 κ y as ah Rr := by
  refine vx_ofWH (cc := cc) (maxL := xnL y) (ret := ret) (ws' := xWds) (hh := hh) hpl (by rw [xws_eq, hcw]) ?_
  intro p e s m args below meth c s₁ B hml hv
  obtain ⟨rfl, hH, hIn⟩ := hv
  have hts := atoms_spec (ws := xws y) B.pre
  have htab : c.exceptionTable.toList = tableOf hh := vx_table (x := xnm y) B (by rw [← hcw]; exact hts _ List.mem_cons_self)
  have C : xCx l D dA sz0 κ cc (xnm y).cls (xnL y) hh p s m as.toArray meth c := ⟨B.exec, B.bytes, hml, findClass_of_methodNamed B.named, fun w hw => hts w (List.mem_cons_of_mem _ hw), hIn, hst, B.notSynchronized, htab⟩
  rw [lg_entry_eq]
  exact xW_at (R := xrm y) hs C (Nat.le_refl _) (Nat.le_refl _) ⟨rfl, B.returns, (name_of_methodNamed B.named B.method).1⟩ h s.heap [] _ 0 0 hH va_S.rf (xEnt_LR hfit) (by show 0 + xmc y ≤ xmc y; omega) (by show 0 + xms y ≤ xms y; omega)
end METH
/-- a table switch -/
def xtg (pc : Nat) (dflt lo hi : Int) (offs : List Int) (x : Int32) : Nat := if x.toInt < lo ∨ hi < x.toInt then ((pc : Int) + dflt).toNat else ((pc : Int) + offs.getD (x.toInt - lo).toNat dflt).toNat
theorem sn_switch {l : Launch} {D : va_G} {dA : Nat → ClassId} {sz0 : Nat} {κ : Nat → Nat} {cc : ByteArray} {own : String} {nL : Nat} {hh : List (Nat × Nat × Nat × Nat)} {fr lo9 : Nat} {Fn : xFn} {pc : Nat} {dflt lo hi : Int} {offs : Array Int} {len : Nat} (hd : decode cc pc = .ok (.tableswitch dflt lo hi offs, len)) (h0 : 0 ≤ (pc : Int) + dflt) (h1 : ∀ o ∈ offs.toList, 0 ≤ (pc : Int) + o) (h2 : hi - lo + 1 = (offs.size : Int)) : xSnd l D dA sz0 κ cc own nL hh fr lo9 Fn pc (oSw (xtg pc dflt lo hi offs.toList)) := by
  intro p e R s m args below meth c Q Rr P ls st ah k n C hfr hlo hFn hP h H locs L cells slots hH hS hL hk hn
  obtain ⟨hx, hb, hml, hown, hts, hIn, hst, hlk, htb⟩ := C
  rcases st with _ | ⟨v, st⟩
  · exact False.elim h
  cases v <;> try (simp only [oSw, iS] at h; done)
  rename_i x
  have h : P (xtg pc dflt lo hi offs.toList x, ls, st, ah, k, n) := h
  by_cases hr : x.toInt < lo ∨ hi < x.toInt
  · have e : xtg pc dflt lo hi offs.toList x = ((pc : Int) + dflt).toNat := if_pos hr
    rw [e] at h
    exact lv_tableOut hx hb hd hr (by omega) (hP _ h H locs L cells slots hH hS hL hk hn)
  · have e : xtg pc dflt lo hi offs.toList x = ((pc : Int) + offs.toList.getD (x.toInt - lo).toNat dflt).toNat := if_neg hr
    rw [e] at h
    have hi9 : (x.toInt - lo).toNat < offs.size := by omega
    have hg : offs[(x.toInt - lo).toNat]? = some (offs.toList.getD (x.toInt - lo).toNat dflt) := by
      rw [List.getD_eq_getElem?_getD, Array.getElem?_toList, Array.getElem?_eq_getElem hi9]
      rfl
    have hm : 0 ≤ (pc : Int) + offs.toList.getD (x.toInt - lo).toNat dflt := h1 _ (by
      rw [List.getD_eq_getElem?_getD, Array.getElem?_toList, Array.getElem?_eq_getElem hi9]
      show offs[(x.toInt - lo).toNat] ∈ offs.toList
      exact Array.getElem_mem_toList hi9)
    exact lv_tableIn hx hb hd (by omega) (by omega) hg (by omega) (hP _ h H locs L cells slots hH hS hL hk hn)
