/-! the instructions by name; q: where it goes on -/
def xo {α : Type} (o : Option α) (K : α → Prop) : Prop := ∃ v, o = some v ∧ K v
theorem xo_some {α : Type} {v : α} {K : α → Prop} : xo (some v) K ↔ K v := ⟨fun ⟨_, h, k⟩ => by cases h; exact k, fun k => ⟨v, rfl, k⟩⟩
def xrv : Value → Option (Option Nat)
  | .null => some none
  | .ref a => some (some a)
  | _ => none
def oK (v : Value) (q : Nat) : xI := iS fun ls st => some (q, ls, v :: st)
def oIl (i q : Nat) : xI := iS fun ls st => match xg ls i with
  | some (.int x) => some (q, ls, .int x :: st)
  | _ => none
def oLl (i q : Nat) : xI := iS fun ls st => match xg ls i with
  | some (.long x) => some (q, ls, .long x :: st)
  | _ => none
def oFl (i q : Nat) : xI := iS fun ls st => match xg ls i with
  | some (.float x) => some (q, ls, .float x :: st)
  | _ => none
def oAl (i q : Nat) : xI := iS fun ls st => match xg ls i with
  | some (.ref x) => some (q, ls, .ref x :: st)
  | some .null => some (q, ls, .null :: st)
  | _ => none
def oIs (i q : Nat) : xI := iS fun ls st => match st with
  | .int x :: st => some (q, xs1 ls i (.int x), st)
  | _ => none
def oFs (i q : Nat) : xI := iS fun ls st => match st with
  | .float x :: st => some (q, xs1 ls i (.float x), st)
  | _ => none
def oAs (i q : Nat) : xI := iS fun ls st => match st with
  | .ref x :: st => some (q, xs1 ls i (.ref x), st)
  | .null :: st => some (q, xs1 ls i .null, st)
  | _ => none
def oLs (i q : Nat) : xI := iS fun ls st => match st with
  | .long x :: st => some (q, xs2 ls i (.long x), st)
  | _ => none
def oInc (i : Nat) (c : Int32) (q : Nat) : xI := iS fun ls st => match xg ls i with
  | some (.int x) => some (q, xs1 ls i (.int (x + c)), st)
  | _ => none
def oII (f : Int32 → Int32 → Int32) (q : Nat) : xI := iS fun ls st => match st with
  | .int y :: .int x :: st => some (q, ls, .int (f x y) :: st)
  | _ => none
def oLL (f : Int64 → Int64 → Int64) (q : Nat) : xI := iS fun ls st => match st with
  | .long y :: .long x :: st => some (q, ls, .long (f x y) :: st)
  | _ => none
def oLI (f : Int64 → Int32 → Int64) (q : Nat) : xI := iS fun ls st => match st with
  | .int y :: .long x :: st => some (q, ls, .long (f x y) :: st)
  | _ => none
def oI (f : Int32 → Int32) (q : Nat) : xI := iS fun ls st => match st with
  | .int x :: st => some (q, ls, .int (f x) :: st)
  | _ => none
def oI2l (q : Nat) : xI := iS fun ls st => match st with
  | .int x :: st => some (q, ls, .long x.toInt64 :: st)
  | _ => none
def oL2i (q : Nat) : xI := iS fun ls st => match st with
  | .long x :: st => some (q, ls, .int x.toInt32 :: st)
  | _ => none
def oF2i (q : Nat) : xI := iS fun ls st => match st with
  | .float x :: st => some (q, ls, .int (FP.f2i x) :: st)
  | _ => none
def oLn (q : Nat) : xI := iS fun ls st => match st with
  | .long x :: st => some (q, ls, .long (-x) :: st)
  | _ => none
def oI2f (q : Nat) : xI := iS fun ls st => match st with
  | .int x :: st => some (q, ls, .float (FP.i2f x) :: st)
  | _ => none
def oF2d (q : Nat) : xI := iC fun ls st => match st with
  | .float x :: st => some (vf_n64 (FP.f2d x), q, ls, .double (FP.f2d x) :: st)
  | _ => none
def oFF (f : UInt32 → UInt32 → UInt32) (q : Nat) : xI := iC fun ls st => match st with
  | .float y :: .float x :: st => some (vf_n32 (f x y), q, ls, .float (f x y) :: st)
  | _ => none
def oFc (op : CmpOp) (q : Nat) : xI := iS fun ls st => match st with
  | .float y :: .float x :: st => some (q, ls, .int (Op.cmpValue (FP.fcmp x y) op) :: st)
  | _ => none
def oDc (op : CmpOp) (q : Nat) : xI := iS fun ls st => match st with
  | .double y :: .double x :: st => some (q, ls, .int (Op.cmpValue (FP.dcmp x y) op) :: st)
  | _ => none
def oLc (q : Nat) : xI := iS fun ls st => match st with
  | .long y :: .long x :: st => some (q, ls, .int (lg_cmp x y) :: st)
  | _ => none
def oDiv (q : Nat) : xI := iC fun ls st => match st with
  | .int y :: .int x :: st => some (¬ y = 0, q, ls, .int (x / y) :: st)
  | _ => none
def oRem (q : Nat) : xI := iC fun ls st => match st with
  | .int y :: .int x :: st => some (¬ y = 0, q, ls, .int (x - x / y * y) :: st)
  | _ => none
def oDup (q : Nat) : xI := iC fun ls st => match st with
  | v :: st => some (v.category = 1, q, ls, v :: v :: st)
  | _ => none
def oDupX1 (q : Nat) : xI := iC fun ls st => match st with
  | v :: w :: st => some (v.category = 1 ∧ w.category = 1, q, ls, v :: w :: v :: st)
  | _ => none
/-- two of one slot -/
def oDup2 (q : Nat) : xI := iC fun ls st => match st with
  | v :: w :: st => some (v.category = 1 ∧ w.category = 1, q, ls, v :: w :: v :: w :: st)
  | _ => none
/-- one of two slots -/
def oDup2L (q : Nat) : xI := iC fun ls st => match st with
  | v :: st => some (v.category = 2, q, ls, v :: v :: st)
  | _ => none
def oPop (q : Nat) : xI := iC fun ls st => match st with
  | v :: st => some (v.category = 1, q, ls, st)
  | _ => none
def oGo (q : Nat) : xI := iS fun ls st => some (q, ls, st)
def oSw (tg : Int32 → Nat) : xI := iS fun ls st => match st with
  | .int x :: st => some (tg x, ls, st)
  | _ => none
def oZ (c : Int32 → Prop) (t f : Nat) : xI := iB (fun st => match st with
  | .int x :: st => some (c x, st)
  | _ => none) t f
def oCmp (c : Int32 → Int32 → Prop) (t f : Nat) : xI := iB (fun st => match st with
  | .int y :: .int x :: st => some (c x y, st)
  | _ => none) t f
def oNul (t f : Nat) : xI := iB (fun st => match st with
  | .null :: st => some (True, st)
  | .ref _ :: st => some (False, st)
  | _ => none) t f
def oNNul (t f : Nat) : xI := iB (fun st => match st with
  | .null :: st => some (False, st)
  | .ref _ :: st => some (True, st)
  | _ => none) t f
def oAeq (t f : Nat) : xI := iB (fun st => match st with
  | y :: x :: st => (match xrv y, xrv x with
    | some b, some a => some (a = b, st)
    | _, _ => none)
  | _ => none) t f
def oAne (t f : Nat) : xI := iB (fun st => match st with
  | y :: x :: st => (match xrv y, xrv x with
    | some b, some a => some (¬ a = b, st)
    | _, _ => none)
  | _ => none) t f
/-- checkcast of an object that the class table knows (or null) -/
def oCast (ci q : Nat) : xI := ⟨fun _ ls st ah k n P _ => match st with
  | .ref a :: st => xis ah a ci ∧ P (q, ls, .ref a :: st, ah, k, n)
  | .null :: st => P (q, ls, .null :: st, ah, k, n)
  | _ => False, by
  intro M M' ls st ah k n P P' R R' _ hP _ h
  split at h
  · exact ⟨h.1, hP _ h.2⟩
  · exact hP _ h
  · exact h⟩
/-- checkcast of a row of references -/
def oCastQ (q : Nat) : xI := ⟨fun _ ls st ah k n P _ => match st with
  | .ref a :: st => xo (xaq ah a) fun _ => P (q, ls, .ref a :: st, ah, k, n)
  | _ => False, by
  intro M M' ls st ah k n P P' R R' _ hP _ h
  split at h
  · obtain ⟨v, h1, h2⟩ := h
    exact ⟨v, h1, hP _ h2⟩
  · exact h⟩
def oGet (ci kf q : Nat) : xI := ⟨fun _ ls st ah k n P _ => match st with
  | .ref a :: st => xo (xfld ah a ci kf) fun v => P (q, ls, v :: st, ah, k, n)
  | _ => False, by
  intro M M' ls st ah k n P P' R R' _ hP _ h
  split at h
  · obtain ⟨v, h1, h2⟩ := h
    exact ⟨v, h1, hP _ h2⟩
  · exact h⟩
def oPut (ci kf : Nat) (ty : FieldType) (q : Nat) : xI := ⟨fun _ ls st ah k n P _ => match st with
  | v :: .ref a :: st => (xfld ah a ci kf).isSome = true ∧ (narrow ty v = v ∧ fits ty v = true) ∧ P (q, ls, st, xput ah a kf v, k, n)
  | _ => False, by
  intro M M' ls st ah k n P P' R R' _ hP _ h
  split at h
  · exact ⟨h.1, h.2.1, hP _ h.2.2⟩
  · exact h⟩
/-- a field of a constant object: κ (b + i) for i < N, and it holds vs i -/
def oGetE (κ : Nat → Nat) (b N : Nat) (vs : Nat → Value) (q : Nat) : xI := ⟨fun _ ls st ah k n P _ => match st with
  | .ref a :: st => ∃ i, i < N ∧ a = κ (b + i) ∧ P (q, ls, vs i :: st, ah, k, n)
  | _ => False, by
  intro M M' ls st ah k n P P' R R' _ hP _ h
  split at h
  · obtain ⟨i, h1, h2, h3⟩ := h
    exact ⟨i, h1, h2, hP _ h3⟩
  · exact h⟩
def oIald (t q : Nat) : xI := ⟨fun _ ls st ah k n P _ => match st with
  | .int i :: .ref a :: st => xo (xai ah a t) fun A => vp_in i A.1 ∧ P (q, ls, .int (A.2 i.toNatClampNeg) :: st, ah, k, n)
  | _ => False, by
  intro M M' ls st ah k n P P' R R' _ hP _ h
  split at h
  · obtain ⟨v, h1, h2, h3⟩ := h
    exact ⟨v, h1, h2, hP _ h3⟩
  · exact h⟩
def oLald (q : Nat) : xI := ⟨fun _ ls st ah k n P _ => match st with
  | .int i :: .ref a :: st => xo (xal ah a) fun A => vp_in i A.1 ∧ P (q, ls, .long (A.2 i.toNatClampNeg) :: st, ah, k, n)
  | _ => False, by
  intro M M' ls st ah k n P P' R R' _ hP _ h
  split at h
  · obtain ⟨v, h1, h2, h3⟩ := h
    exact ⟨v, h1, h2, hP _ h3⟩
  · exact h⟩
def oDald (q : Nat) : xI := ⟨fun _ ls st ah k n P _ => match st with
  | .int i :: .ref a :: st => xo (xad ah a) fun A => vp_in i A.1 ∧ P (q, ls, .double (A.2 i.toNatClampNeg) :: st, ah, k, n)
  | _ => False, by
  intro M M' ls st ah k n P P' R R' _ hP _ h
  split at h
  · obtain ⟨v, h1, h2, h3⟩ := h
    exact ⟨v, h1, h2, hP _ h3⟩
  · exact h⟩
def oAald (q : Nat) : xI := ⟨fun _ ls st ah k n P _ => match st with
  | .int i :: .ref a :: st => xo (xaq ah a) fun A => vp_in i A.1 ∧ P (q, ls, va_rf (A.2 i.toNatClampNeg) :: st, ah, k, n)
  | _ => False, by
  intro M M' ls st ah k n P P' R R' _ hP _ h
  split at h
  · obtain ⟨v, h1, h2, h3⟩ := h
    exact ⟨v, h1, h2, hP _ h3⟩
  · exact h⟩
/-- a constant array at κ b, of N places -/
def oAldK (κ : Nat → Nat) (b N : Nat) (vs : Nat → Value) (q : Nat) : xI := ⟨fun _ ls st ah k n P _ => match st with
  | .int i :: .ref a :: st => a = κ b ∧ vp_in i N ∧ P (q, ls, vs i.toNatClampNeg :: st, ah, k, n)
  | _ => False, by
  intro M M' ls st ah k n P P' R R' _ hP _ h
  split at h
  · exact ⟨h.1, h.2.1, hP _ h.2.2⟩
  · exact h⟩
def oLenK (κ : Nat → Nat) (b N : Nat) (q : Nat) : xI := iC fun ls st => match st with
  | .ref a :: st => some (a = κ b, q, ls, .int (Int32.ofNat N) :: st)
  | _ => none
/-- arraylength of a known array -/
def oLen (q : Nat) : xI := ⟨fun _ ls st ah k n P _ => match st with
  | .ref a :: st => xo (xalen ah a) fun N => P (q, ls, .int (Int32.ofNat N) :: st, ah, k, n)
  | _ => False, by
  intro M M' ls st ah k n P P' R R' _ hP _ h
  split at h
  · obtain ⟨v, h1, h2⟩ := h
    exact ⟨v, h1, hP _ h2⟩
  · exact h⟩
/-- of a known array, or of the constant one at κ b, of N places -/
def oLenU (κ : Nat → Nat) (b N : Nat) (q : Nat) : xI := ⟨fun _ ls st ah k n P _ => match st with
  | .ref a :: st => (a = κ b ∧ P (q, ls, .int (Int32.ofNat N) :: st, ah, k, n)) ∨ xo (xalen ah a) fun N => P (q, ls, .int (Int32.ofNat N) :: st, ah, k, n)
  | _ => False, by
  intro M M' ls st ah k n P P' R R' _ hP _ h
  split at h
  · rcases h with h | ⟨v, h1, h2⟩
    · exact Or.inl ⟨h.1, hP _ h.2⟩
    · exact Or.inr ⟨v, h1, hP _ h2⟩
  · exact h⟩
def oIast (t : Nat) (nr : Int32 → Int32) (q : Nat) : xI := ⟨fun _ ls st ah k n P _ => match st with
  | .int x :: .int i :: .ref a :: st => xo (xai ah a t) fun A => vp_in i A.1 ∧ P (q, ls, st, xup ah a (.inl (t, A.1, .inl (upd A.2 i.toNatClampNeg (nr x)))), k, n)
  | _ => False, by
  intro M M' ls st ah k n P P' R R' _ hP _ h
  split at h
  · obtain ⟨v, h1, h2, h3⟩ := h
    exact ⟨v, h1, h2, hP _ h3⟩
  · exact h⟩
def oLast (q : Nat) : xI := ⟨fun _ ls st ah k n P _ => match st with
  | .long x :: .int i :: .ref a :: st => xo (xal ah a) fun A => vp_in i A.1 ∧ P (q, ls, st, xup ah a (.inl (3, A.1, .inr (.inl (vp_updL A.2 i.toNatClampNeg x)))), k, n)
  | _ => False, by
  intro M M' ls st ah k n P P' R R' _ hP _ h
  split at h
  · obtain ⟨v, h1, h2, h3⟩ := h
    exact ⟨v, h1, h2, hP _ h3⟩
  · exact h⟩
def oDast (q : Nat) : xI := ⟨fun _ ls st ah k n P _ => match st with
  | .double x :: .int i :: .ref a :: st => xo (xad ah a) fun A => vp_in i A.1 ∧ P (q, ls, st, xup ah a (.inl (4, A.1, .inr (.inr (.inr (.inl (vf_upd A.2 i.toNatClampNeg x)))))), k, n)
  | _ => False, by
  intro M M' ls st ah k n P P' R R' _ hP _ h
  split at h
  · obtain ⟨v, h1, h2, h3⟩ := h
    exact ⟨v, h1, h2, hP _ h3⟩
  · exact h⟩
/-- aastore into an Object[]: an object of a class ci that may be stored there (by the list oks), or null -/
def oAast (oks : List Nat) (q : Nat) : xI := ⟨fun _ ls st ah k n P _ => match st with
  | .ref v :: .int i :: .ref a :: st => xo (xaq ah a) fun A => vp_in i A.1 ∧ xob oks ah v ∧ P (q, ls, st, xup ah a (.inl (5, A.1, .inr (.inr (.inr (.inr (va_up A.2 i.toNatClampNeg (some v))))))), k, n)
  | .null :: .int i :: .ref a :: st => xo (xaq ah a) fun A => vp_in i A.1 ∧ P (q, ls, st, xup ah a (.inl (5, A.1, .inr (.inr (.inr (.inr (va_up A.2 i.toNatClampNeg none)))))), k, n)
  | _ => False, by
  intro M M' ls st ah k n P P' R R' _ hP _ h
  split at h
  · obtain ⟨v, h1, h2, h3, h4⟩ := h
    exact ⟨v, h1, h2, h3, hP _ h4⟩
  · obtain ⟨v, h1, h2, h3⟩ := h
    exact ⟨v, h1, h2, hP _ h3⟩
  · exact h⟩
def oNew (ci : Nat) (fs : List Value) (sz q : Nat) : xI := iN (fun st => some (True, sz, .inr (ci, fs), st)) q
def oNewI (t w q : Nat) : xI := iN (fun st => match st with
  | .int m :: st => some (¬ m < 0 ∧ m.toNatClampNeg * w ≤ 536870912, m.toNatClampNeg, .inl (t, m.toNatClampNeg, .inl fun _ => 0), st)
  | _ => none) q
def oNewL (q : Nat) : xI := iN (fun st => match st with
  | .int m :: st => some (¬ m < 0 ∧ m.toNatClampNeg * 8 ≤ 536870912, m.toNatClampNeg, .inl (3, m.toNatClampNeg, .inr (.inl fun _ => 0)), st)
  | _ => none) q
def oNewD (q : Nat) : xI := iN (fun st => match st with
  | .int m :: st => some (¬ m < 0 ∧ m.toNatClampNeg * 8 ≤ 536870912, m.toNatClampNeg, .inl (4, m.toNatClampNeg, .inr (.inr (.inr (.inl fun _ => 0)))), st)
  | _ => none) q
def oNewQ (q : Nat) : xI := iN (fun st => match st with
  | .int m :: st => some (¬ m < 0 ∧ m.toNatClampNeg * 4 ≤ 536870912, m.toNatClampNeg, .inl (5, m.toNatClampNeg, .inr (.inr (.inr (.inr fun _ => none)))), st)
  | _ => none) q
/-- Object.<init> -/
def oObj (q : Nat) : xI := iS fun ls st => match st with
  | .ref _ :: [] => some (q, ls, [])
  | _ => none
/-- System.arraycopy between rows of references -/
def oCpyQ (oks : List Nat) (q : Nat) : xI := ⟨fun _ ls st ah k n P _ => match st with
  | .int m :: .int dp :: .ref a :: .int sp :: .ref b :: [] => xo (xaq ah b) fun B => xo (xaq ah a) fun A => (¬ sp < 0 ∧ ¬ dp < 0 ∧ ¬ m < 0) ∧ (sp.toNatClampNeg + m.toNatClampNeg ≤ B.1 ∧ dp.toNatClampNeg + m.toNatClampNeg ≤ A.1) ∧ (∀ i : Nat, i < m.toNatClampNeg → ∀ y : Nat, B.2 (sp.toNatClampNeg + i) = some y → xob oks ah y) ∧ P (q, ls, [], xup ah a (.inl (5, A.1, .inr (.inr (.inr (.inr (va_cpy B.2 A.2 sp.toNatClampNeg dp.toNatClampNeg m.toNatClampNeg)))))), k, n)
  | _ => False, by
  intro M M' ls st ah k n P P' R R' _ hP _ h
  split at h
  · obtain ⟨B, h1, A, h2, h3, h4, h5, h6⟩ := h
    exact ⟨B, h1, A, h2, h3, h4, h5, hP _ h6⟩
  · exact h⟩
/-- between rows of bytes -/
def oCpyB (q : Nat) : xI := ⟨fun _ ls st ah k n P _ => match st with
  | .int m :: .int dp :: .ref a :: .int sp :: .ref b :: [] => xo (xai ah b 2) fun B => xo (xai ah a 2) fun A => (¬ sp < 0 ∧ ¬ dp < 0 ∧ ¬ m < 0) ∧ (sp.toNatClampNeg + m.toNatClampNeg ≤ B.1 ∧ dp.toNatClampNeg + m.toNatClampNeg ≤ A.1) ∧ (∀ i : Nat, i < m.toNatClampNeg → fits .byte (.int (B.2 (sp.toNatClampNeg + i))) = true) ∧ P (q, ls, [], xup ah a (.inl (2, A.1, .inl (va_cpy B.2 A.2 sp.toNatClampNeg dp.toNatClampNeg m.toNatClampNeg))), k, n)
  | _ => False, by
  intro M M' ls st ah k n P P' R R' _ hP _ h
  split at h
  · obtain ⟨B, h1, A, h2, h3, h4, h5, h6⟩ := h
    exact ⟨B, h1, A, h2, h3, h4, h5, hP _ h6⟩
  · exact h⟩
/-- from the bytes of a constant text: κ (b + i) for i < N, of len i places, that hold byt i -/
def oCpyT (κ : Nat → Nat) (b N : Nat) (len : Nat → Nat) (byt : Nat → Nat → Int32) (q : Nat) : xI := ⟨fun _ ls st ah k n P _ => match st with
  | .int m :: .int dp :: .ref a :: .int sp :: .ref x :: [] => ∃ i, i < N ∧ x = κ (b + i) ∧ xo (xai ah a 2) fun A => (¬ sp < 0 ∧ ¬ dp < 0 ∧ ¬ m < 0) ∧ (sp.toNatClampNeg + m.toNatClampNeg ≤ len i ∧ dp.toNatClampNeg + m.toNatClampNeg ≤ A.1) ∧ (∀ j : Nat, j < m.toNatClampNeg → fits .byte (.int (byt i (sp.toNatClampNeg + j))) = true) ∧ P (q, ls, [], xup ah a (.inl (2, A.1, .inl (va_cpy (byt i) A.2 sp.toNatClampNeg dp.toNatClampNeg m.toNatClampNeg))), k, n)
  | _ => False, by
  intro M M' ls st ah k n P P' R R' _ hP _ h
  split at h
  · obtain ⟨i, h1, h2, A, h3, h4, h5, h6, h7⟩ := h
    exact ⟨i, h1, h2, A, h3, h4, h5, h6, hP _ h7⟩
  · exact h⟩
def oMax (q : Nat) : xI := iC fun ls st => match st with
  | .int y :: .int x :: st => some ((st.map Value.category).sum ≤ 8, q, ls, .int (if x < y then y else x) :: st)
  | _ => none
def oMin (q : Nat) : xI := iC fun ls st => match st with
  | .int y :: .int x :: st => some ((st.map Value.category).sum ≤ 8, q, ls, .int (if y < x then y else x) :: st)
  | _ => none
/-- getClass of a row of references -/
def oCls (κ : Nat → Nat) (q : Nat) : xI := ⟨fun _ ls st ah k n P _ => match st with
  | .ref a :: st => (st.map Value.category).sum ≤ 8 ∧ (∃ A, xaq ah a = some A) ∧ P (q, ls, .ref (κ 32) :: st, ah, k, n)
  | _ => False, by
  intro M M' ls st ah k n P P' R R' _ hP _ h
  split at h
  · exact ⟨h.1, h.2.1, hP _ h.2.2⟩
  · exact h⟩
/-- arraylength of the bytes of a constant text -/
def oLenE (κ : Nat → Nat) (b N : Nat) (len : Nat → Nat) (q : Nat) : xI := ⟨fun _ ls st ah k n P _ => match st with
  | .ref a :: st => ∃ i, i < N ∧ a = κ (b + i) ∧ P (q, ls, .int (Int32.ofNat (len i)) :: st, ah, k, n)
  | _ => False, by
  intro M M' ls st ah k n P P' R R' _ hP _ h
  split at h
  · obtain ⟨i, h1, h2, h3⟩ := h
    exact ⟨i, h1, h2, hP _ h3⟩
  · exact h⟩
def oIr (ty : FieldType) : xI := iR fun st => match st with
  | .int x :: [] => some (narrow ty (.int x) = .int x, some (.int x))
  | _ => none
def oLr : xI := iR fun st => match st with
  | .long x :: [] => some (True, some (.long x))
  | _ => none
def oFr : xI := iR fun st => match st with
  | .float x :: [] => some (True, some (.float x))
  | _ => none
def oAr : xI := iR fun st => match st with
  | .ref x :: [] => some (True, some (.ref x))
  | .null :: [] => some (True, some .null)
  | _ => none
def oVr : xI := iR fun st => match st with
  | [] => some (True, none)
  | _ => none
