/-! THE PURE MACHINE: an instruction is a predicate transformer over (locals, stack, heap of known cells, cells and slots left); a method's meaning is the least fixpoint of its table. -/
abbrev xO : Type := (Nat × vp_A) ⊕ (Nat × List Value)
abbrev xH : Type := Nat → Option xO
abbrev xL : Type := List (Option Value)
abbrev xC : Type := Nat × xL × List Value × xH × Nat × Nat
abbrev xR : Type := Option Value ⊕ Nat
abbrev xM : Type := Nat → List Value → xH → (xR → xH → Prop) → Prop
abbrev xF : Type := xM → xL → List Value → xH → Nat → Nat → (xC → Prop) → (xR → xH → Prop) → Prop
def xMono (f : xF) : Prop := ∀ (M M' : xM) (ls : xL) (st : List Value) (ah : xH) (k n : Nat) (P P' : xC → Prop) (R R' : xR → xH → Prop), (∀ y a h Q, M y a h Q → M' y a h Q) → (∀ c, P c → P' c) → (∀ r h, R r h → R' r h) → f M ls st ah k n P R → f M' ls st ah k n P' R'
abbrev xI : Type := {f : xF // xMono f}
def xStuck : xI := ⟨fun _ _ _ _ _ _ _ _ => False, fun _ _ _ _ _ _ _ _ _ _ _ _ _ _ h => h.elim⟩
abbrev xT : Type := Nat → xI
def xStep (T : xT) (M : xM) (c : xC) (P : xC → Prop) (R : xR → xH → Prop) : Prop := (T c.1).1 M c.2.1 c.2.2.1 c.2.2.2.1 c.2.2.2.2.1 c.2.2.2.2.2 P R
def xW (T : xT) (M : xM) (R : xR → xH → Prop) (c : xC) : Prop := ∀ P : xC → Prop, (∀ c, xStep T M c P R → P c) → P c
theorem xStep_mono {T : xT} {M M' : xM} {c : xC} {P P' : xC → Prop} {R R' : xR → xH → Prop} (hM : ∀ y a h Q, M y a h Q → M' y a h Q) (hP : ∀ c, P c → P' c) (hR : ∀ r h, R r h → R' r h) (h : xStep T M c P R) : xStep T M' c P' R' := (T c.1).2 M M' _ _ _ _ _ P P' R R' hM hP hR h
theorem xW_in {T : xT} {M : xM} {R : xR → xH → Prop} {c : xC} (h : xStep T M c (xW T M R) R) : xW T M R c := fun P hP => hP c (xStep_mono (fun _ _ _ _ h => h) (fun _ hc => hc P hP) (fun _ _ h => h) h)
theorem xW_out {T : xT} {M : xM} {R : xR → xH → Prop} {c : xC} (h : xW T M R c) : xStep T M c (xW T M R) R := h (fun c => xStep T M c (xW T M R) R) (fun _ hc => xStep_mono (fun _ _ _ _ h => h) (fun _ h => xW_in h) (fun _ _ h => h) hc)
theorem xWu {T : xT} {M : xM} {R : xR → xH → Prop} {pc : Nat} {ls : xL} {st : List Value} {ah : xH} {k n : Nat} {i : xI} (h : T pc = i) : xW T M R (pc, ls, st, ah, k, n) ↔ i.1 M ls st ah k n (xW T M R) R := by
  subst h
  exact ⟨fun h => xW_out (c := (pc, ls, st, ah, k, n)) h, fun h => xW_in (c := (pc, ls, st, ah, k, n)) h⟩
theorem xW_mono {T : xT} {M M' : xM} {R R' : xR → xH → Prop} {c : xC} (hM : ∀ y a h Q, M y a h Q → M' y a h Q) (hR : ∀ r h, R r h → R' r h) (h : xW T M R c) : xW T M' R' c := h (xW T M' R') (fun _ hc => xW_in (xStep_mono hM (fun _ h => h) hR hc))
/-! methods -/
def xEnt : List Value → Nat → xL
  | [], n => List.replicate n none
  | v :: vs, n => if v.category = 2 then some v :: none :: xEnt vs (n - 2) else some v :: xEnt vs (n - 1)
def xfit (as : List Value) (n : Nat) : Prop := (lg_sl as).length ≤ n
section XSEM
variable (Tb : Nat → xT) (nL mc ms : Nat → Nat)
def xSem : xM := fun y args ah R => ∀ F : xM, (∀ y args ah R, xfit args (nL y) → xW (Tb y) F R (0, xEnt args (nL y), [], ah, mc y, ms y) → F y args ah R) → F y args ah R
theorem xSem_in {y : Nat} {args : List Value} {ah : xH} {R : xR → xH → Prop} (hf : xfit args (nL y)) (h : xW (Tb y) (xSem Tb nL mc ms) R (0, xEnt args (nL y), [], ah, mc y, ms y)) : xSem Tb nL mc ms y args ah R := fun F hF => hF _ _ _ _ hf (xW_mono (fun _ _ _ _ hq => hq F hF) (fun _ _ h => h) h)
theorem xSem_mono {y : Nat} {args : List Value} {ah : xH} {R R' : xR → xH → Prop} (h : xSem Tb nL mc ms y args ah R) (hR : ∀ r h, R r h → R' r h) : xSem Tb nL mc ms y args ah R' :=
  h (fun y a h R => ∀ R' : xR → xH → Prop, (∀ r h, R r h → R' r h) → xSem Tb nL mc ms y a h R') (fun _ _ _ _ hf hw _ hR => xSem_in Tb nL mc ms hf (xW_mono (fun _ _ _ _ hq => hq _ (fun _ _ h => h)) hR hw)) R' hR
theorem xSem_out {y : Nat} {args : List Value} {ah : xH} {R : xR → xH → Prop} (h : xSem Tb nL mc ms y args ah R) : xW (Tb y) (xSem Tb nL mc ms) R (0, xEnt args (nL y), [], ah, mc y, ms y) :=
  (h (fun y args ah R => xfit args (nL y) ∧ xW (Tb y) (xSem Tb nL mc ms) R (0, xEnt args (nL y), [], ah, mc y, ms y)) (fun _ _ _ _ hf hw => ⟨hf, xW_mono (fun _ _ _ _ hq => xSem_in Tb nL mc ms hq.1 hq.2) (fun _ _ h => h) hw⟩)).2
theorem xSem_iff {y : Nat} {args : List Value} {ah : xH} {R : xR → xH → Prop} (hf : xfit args (nL y)) : xSem Tb nL mc ms y args ah R ↔ xW (Tb y) (xSem Tb nL mc ms) R (0, xEnt args (nL y), [], ah, mc y, ms y) := ⟨xSem_out Tb nL mc ms, xSem_in Tb nL mc ms hf⟩
theorem xSem_call {y : Nat} {args : List Value} {ah : xH} {G : xR → xH → Prop} : (∃ Rc : xR → xH → Prop, xSem Tb nL mc ms y args ah Rc ∧ ∀ r h, Rc r h → G r h) ↔ xSem Tb nL mc ms y args ah G := ⟨fun ⟨_, h1, h2⟩ => xSem_mono Tb nL mc ms h1 h2, fun h => ⟨G, h, fun _ _ h => h⟩⟩
end XSEM
/-! locals -/
def xg : xL → Nat → Option Value
  | [], _ => none
  | a :: _, 0 => a
  | _ :: l, n + 1 => xg l n
def xkill : Option Value → Option Value
  | some (.long _) => none
  | some (.double _) => none
  | a => a
def xs1 : xL → Nat → Value → xL
  | [], _, _ => []
  | _ :: l, 0, v => some v :: l
  | a :: l, 1, v => xkill a :: xs1 l 0 v
  | a :: l, n + 2, v => a :: xs1 l (n + 1) v
def xs2 : xL → Nat → Value → xL
  | [], _, _ => []
  | [_], _, _ => [none]
  | _ :: _ :: l, 0, v => some v :: none :: l
  | a :: l, 1, v => xkill a :: xs2 l 0 v
  | a :: l, n + 2, v => a :: xs2 l (n + 1) v
/-! the heap -/
def xup (ah : xH) (q : Nat) (o : xO) : xH := fun a => if a = q then some o else ah a
def xfld (ah : xH) (a ci kf : Nat) : Option Value := match ah a with
  | some (.inr (c, fs)) => if c = ci then fs[kf]? else none
  | _ => none
def xput (ah : xH) (a kf : Nat) (v : Value) : xH := match ah a with
  | some (.inr (c, fs)) => xup ah a (.inr (c, fs.set kf v))
  | _ => ah
/-- an array of ints (or smaller) of the type t: its length and what it holds -/
def xai (ah : xH) (a t : Nat) : Option (Nat × (Nat → Int32)) := match ah a with
  | some (.inl (t', N, .inl f)) => if t' = t then some (N, f) else none
  | _ => none
def xal (ah : xH) (a : Nat) : Option (Nat × (Nat → Int64)) := match ah a with
  | some (.inl (3, N, .inr (.inl f))) => some (N, f)
  | _ => none
def xad (ah : xH) (a : Nat) : Option (Nat × (Nat → UInt64)) := match ah a with
  | some (.inl (4, N, .inr (.inr (.inr (.inl f))))) => some (N, f)
  | _ => none
def xaq (ah : xH) (a : Nat) : Option (Nat × (Nat → Option Nat)) := match ah a with
  | some (.inl (5, N, .inr (.inr (.inr (.inr f))))) => some (N, f)
  | _ => none
def xalen (ah : xH) (a : Nat) : Option Nat := match ah a with
  | some (.inl (t, N, _)) => if t < 6 then some N else none
  | _ => none
/-- an object of the class ci stands there; of one of the classes oks -/
def xis (ah : xH) (b ci : Nat) : Prop := ∃ fs, ah b = some (.inr (ci, fs))
def xob (oks : List Nat) (ah : xH) (v : Nat) : Prop := ∃ ci fs, ci ∈ oks ∧ ah v = some (.inr (ci, fs))
/-! what a call asks of its arguments: nothing; a reference first; an object of the class ci first; a constant text first -/
def xgN : List Value → xH → Prop := fun _ _ => True
def xgR : List Value → xH → Prop := fun as _ => match as with
  | .ref _ :: _ => True
  | _ => False
def xgV (ci : Nat) : List Value → xH → Prop := fun as ah => match as with
  | .ref b :: _ => xis ah b ci
  | _ => False
def xgS (κ : Nat → Nat) (b N : Nat) : List Value → xH → Prop := fun as _ => match as with
  | .ref a :: _ => ∃ i, i < N ∧ a = κ (b + i)
  | _ => False
/-! instructions -/
/-- a pure one -/
def iS (g : xL → List Value → Option (Nat × xL × List Value)) : xI := ⟨fun _ ls st ah k n P _ => match g ls st with
  | some q => P (q.1, q.2.1, q.2.2, ah, k, n)
  | none => False, by
  intro M M' ls st ah k n P P' R R' _ hP _ h
  split at h
  · exact hP _ h
  · exact h⟩
/-- a pure one with a premise -/
def iC (g : xL → List Value → Option (Prop × Nat × xL × List Value)) : xI := ⟨fun _ ls st ah k n P _ => match g ls st with
  | some q => q.1 ∧ P (q.2.1, q.2.2.1, q.2.2.2, ah, k, n)
  | none => False, by
  intro M M' ls st ah k n P P' R R' _ hP _ h
  split at h
  · exact ⟨h.1, hP _ h.2⟩
  · exact h⟩
/-- a branch -/
def iB (g : List Value → Option (Prop × List Value)) (t f : Nat) : xI := ⟨fun _ ls st ah k n P _ => match g st with
  | some q => (q.1 → P (t, ls, q.2, ah, k, n)) ∧ (¬ q.1 → P (f, ls, q.2, ah, k, n))
  | none => False, by
  intro M M' ls st ah k n P P' R R' _ hP _ h
  split at h
  · exact ⟨fun c => hP _ (h.1 c), fun c => hP _ (h.2 c)⟩
  · exact h⟩
/-- the end of the method -/
def iR (g : List Value → Option (Prop × Option Value)) : xI := ⟨fun _ _ st ah _ _ _ R => match g st with
  | some v => v.1 ∧ R (.inl v.2) ah
  | none => False, by
  intro M M' ls st ah k n P P' R R' _ _ hR h
  split at h
  · exact ⟨h.1, hR _ _ h.2⟩
  · exact h⟩
/-- throw new E(text) -/
def iX (E : Nat) : xI := ⟨fun _ _ st ah k n _ R => (st = [] ∧ 1 ≤ k ∧ 6 ≤ n) ∧ R (.inr E) ah, by
  intro M M' ls st ah k n P P' R R' _ _ hR h
  exact ⟨h.1, hR _ _ h.2⟩⟩
/-- a new cell -/
def iN (g : List Value → Option (Prop × Nat × xO × List Value)) (q : Nat) : xI := ⟨fun _ ls st ah k n P _ => match g st with
  | some r => r.1 ∧ 1 ≤ k ∧ r.2.1 ≤ n ∧ ∀ x, ah x = none → P (q, ls, .ref x :: r.2.2.2, xup ah x r.2.2.1, k - 1, n - r.2.1)
  | none => False, by
  intro M M' ls st ah k n P P' R R' _ hP _ h
  split at h
  · exact ⟨h.1, h.2.1, h.2.2.1, fun x hx => hP _ (h.2.2.2 x hx)⟩
  · exact h⟩
/-- what is done behind a call -/
def xK (P : xC → Prop) (R : xR → xH → Prop) (q : Nat) (ls : xL) (st : List Value) (k n : Nat) : xR → xH → Prop
  | .inl (some v), ah => P (q, ls, v :: st, ah, k, n)
  | .inl none, ah => P (q, ls, st, ah, k, n)
  | .inr E, ah => R (.inr E) ah
theorem xK_mono {P P' : xC → Prop} {R R' : xR → xH → Prop} {q : Nat} {ls : xL} {st : List Value} {k n : Nat} (hP : ∀ c, P c → P' c) (hR : ∀ r h, R r h → R' r h) : ∀ r ah, xK P R q ls st k n r ah → xK P' R' q ls st k n r ah := by
  intro r ah h
  match r with
  | .inl (some v) => exact hP _ h
  | .inl none => exact hP _ h
  | .inr E => exact hR _ _ h
/-- a call -/
def iCall (gd : List Value → xH → Prop) (y na mc ms q : Nat) : xI := ⟨fun M ls st ah k n P R => (na ≤ st.length ∧ ((st.drop na).map Value.category).sum ≤ 8 ∧ gd (st.take na).reverse ah) ∧ (mc ≤ k ∧ ms ≤ n) ∧ ∃ Rc : xR → xH → Prop, M y (st.take na).reverse ah Rc ∧ ∀ r ah', Rc r ah' → xK P R q ls (st.drop na) (k - mc) (n - ms) r ah', by
  intro M M' ls st ah k n P P' R R' hM hP hR h
  obtain ⟨h1, h2, Rc, h3, h4⟩ := h
  exact ⟨h1, h2, Rc, hM _ _ _ _ h3, fun r ah' hr => xK_mono hP hR r ah' (h4 r ah' hr)⟩⟩
/-- a call in a try block: what is thrown is caught here -/
def xKH (P : xC → Prop) (hd : Nat → Option Nat) (q : Nat) (ls : xL) (st : List Value) (k n : Nat) : xR → xH → Prop
  | .inl (some v), ah => P (q, ls, v :: st, ah, k, n)
  | .inl none, ah => P (q, ls, st, ah, k, n)
  | .inr E, ah => ∃ h, hd E = some h ∧ ∀ x, P (h, ls, [.ref x], ah, k, n)
theorem xKH_mono {P P' : xC → Prop} {hd : Nat → Option Nat} {q : Nat} {ls : xL} {st : List Value} {k n : Nat} (hP : ∀ c, P c → P' c) : ∀ r ah, xKH P hd q ls st k n r ah → xKH P' hd q ls st k n r ah := by
  intro r ah h
  match r with
  | .inl (some v) => exact hP _ h
  | .inl none => exact hP _ h
  | .inr E =>
    obtain ⟨x, h1, h2⟩ := h
    exact ⟨x, h1, fun y => hP _ (h2 y)⟩
def iCallH (gd : List Value → xH → Prop) (y na mc ms q : Nat) (hd : Nat → Option Nat) : xI := ⟨fun M ls st ah k n P _ => (na ≤ st.length ∧ ((st.drop na).map Value.category).sum ≤ 8 ∧ gd (st.take na).reverse ah) ∧ (mc ≤ k ∧ ms ≤ n) ∧ ∃ Rc : xR → xH → Prop, M y (st.take na).reverse ah Rc ∧ ∀ r ah', Rc r ah' → xKH P hd q ls (st.drop na) (k - mc) (n - ms) r ah', by
  intro M M' ls st ah k n P P' R R' hM hP _ h
  obtain ⟨h1, h2, Rc, h3, h4⟩ := h
  exact ⟨h1, h2, Rc, hM _ _ _ _ h3, fun r ah' hr => xKH_mono hP r ah' (h4 r ah' hr)⟩⟩
