/-! the constants: κ 34 the script, 35 its length, 40.. its ints; κ 0..3 the plasters, 4..6 the grounds, 7 PLASTERS, 8 GROUNDS, 9 the list's empty row, 10..16 texts (four words, "mm", " dry", " cracked"), 20..26 their bytes, 30 and 31 the digits, 32 the mirror of Object[] -/
abbrev xNP : List String := ["LIME", "GAUGED", "GYPSUM", "CEMENT"]
abbrev xNG : List String := ["OF_LATH", "OF_BRICK", "OF_STONE"]
abbrev xFP : List (String × String × String × List Int32) := [("Stuccohand$Plaster", "number", "I", [0, 1, 2, 3]), ("Stuccohand$Plaster", "hardness", "I", [1, 2, 3, 4]), ("Stuccohand$Plaster", "needOfMillimetre", "I", [4, 3, 2, 3]), ("Stuccohand$Plaster", "shrinkOfMillimetre", "I", [2, 3, 0, 5])]
abbrev xFG : List (String × String × String × List Int32) := [("Stuccohand$Ground", "hardness", "I", [2, 3, 4]), ("Stuccohand$Ground", "keys", "I", [20, 30, 10])]
abbrev xLen : List Nat := [4, 6, 6, 6, 2, 4, 8]
abbrev xByt : List (List Int32) := [[108, 105, 109, 101], [103, 97, 117, 103, 101, 100], [103, 121, 112, 115, 117, 109], [99, 101, 109, 101, 110, 116], [109, 109], [32, 100, 114, 121], [32, 99, 114, 97, 99, 107, 101, 100]]
/-- DigitTens, DigitOnes -/
abbrev xDT : Nat → Value := fun j => .int (Int32.ofNat (48 + j / 10))
abbrev xDO : Nat → Value := fun j => .int (Int32.ofNat (48 + j % 10))
/-- a reference or null, by a number -/
def xnv (n : Nat) : Value := if n = 0 then .null else .ref (n - 1)
/-- the grounds: their class is not said to be initialised, so only what their fields hold, and that they are three -/
def xGd (κ : Nat → Nat) (A : Nat → Prop) (U : State) (H : Heap) : Prop :=
  (∀ i, i < 3 → True ∧ True ∧ ∀ q ∈ xFG, va_OF q.1 q.2.1 q.2.2.1 (.int (q.2.2.2.getD i 0)) (κ (4 + i)) A U H) ∧ (∀ i j, i < 3 → j < 3 → κ (4 + i) = κ (4 + j) → i = j) ∧ va_T .int (κ 34) (κ 35) (fun j => .int (Int32.ofNat (κ (40 + j)))) A U H
theorem xGd.moved {κ : Nat → Nat} {A : Nat → Prop} {u U : State} {H : Heap} (hvm : u.vm.Alike U.vm) (h : xGd κ A u H) : xGd κ A U H := ⟨fun i hi => ⟨trivial, trivial, fun q hq => va_OF.moved hvm ((h.1 i hi).2.2 q hq)⟩, h.2.1, h.2.2.moved hvm⟩
theorem xGd.kept {κ : Nat → Nat} {A : Nat → Prop} {U : State} {H H1 : Heap} (h : xGd κ A U H) (hq : ∀ a : Nat, a < H.size → ¬ A a → H1[a]? = H[a]?) : xGd κ A U H1 := ⟨fun i hi => ⟨trivial, trivial, fun q hm => va_OF.kept ((h.1 i hi).2.2 q hm) hq⟩, h.2.1, h.2.2.kept hq⟩
def xGh (κ : Nat → Nat) (A : Nat → Prop) (U : State) (H : Heap) : Prop :=
  va_Ec "Stuccohand$Plaster" "Stuccohand$Plaster" "LStuccohand$Plaster;" xNP xFP (fun i => κ i) A U H ∧
  va_Ef 4 "Stuccohand$Plaster" "word" "Ljava/lang/String;" (fun i => .ref (κ (10 + i))) (fun i => κ i) A U H ∧
  xGd κ A U H ∧
  va_Z "Stuccohand" "PLASTERS" "[LStuccohand$Plaster;" (.ref (κ 7)) A U H ∧ va_T (.object "Stuccohand$Plaster") (κ 7) 4 (fun j => .ref (κ j)) A U H ∧
  va_Z "Stuccohand" "GROUNDS" "[LStuccohand$Ground;" (.ref (κ 8)) A U H ∧ va_T (.object "Stuccohand$Ground") (κ 8) 3 (fun j => .ref (κ (4 + j))) A U H ∧
  va_Z "java/util/ArrayList" "DEFAULTCAPACITY_EMPTY_ELEMENTDATA" "[Ljava/lang/Object;" (.ref (κ 9)) A U H ∧ va_T (.object "java/lang/Object") (κ 9) 0 (fun _ => .null) A U H ∧
  vk_S 7 xLen xByt (fun i => κ (10 + i)) (fun i => κ (20 + i)) A U H ∧
  va_Z "java/lang/Integer" "DigitTens" "[B" (.ref (κ 30)) A U H ∧ va_T .byte (κ 30) 100 xDT A U H ∧
  va_Z "java/lang/Integer" "DigitOnes" "[B" (.ref (κ 31)) A U H ∧ va_T .byte (κ 31) 100 xDO A U H ∧
  va_Z "java/lang/String" "COMPACT_STRINGS" "Z" (.int 1) A U H ∧ va_Z "jdk/internal/util/Preconditions" "SIOOBE_FORMATTER" "Ljava/util/function/BiFunction;" (xnv (κ 33)) A U H ∧
  vx_Zq Bundle.tN "UNASSIGNED_STACK" Bundle.steD A U H ∧ vx_Zq Bundle.tN "SUPPRESSED_SENTINEL" Bundle.listD A U H
theorem xGh.moved {κ : Nat → Nat} {A : Nat → Prop} {u U : State} {H : Heap} (hvm : u.vm.Alike U.vm) (h : xGh κ A u H) : xGh κ A U H := by
  obtain ⟨a1, a2, a3, a4, a5, a6, a7, a8, a9, a10, a11, a12, a13, a14, a15, a16, a17, a18⟩ := h
  exact ⟨a1.moved hvm, a2.moved hvm, a3.moved hvm, a4.moved hvm, a5.moved hvm, a6.moved hvm, a7.moved hvm, a8.moved hvm, a9.moved hvm, a10.moved hvm, a11.moved hvm, a12.moved hvm, a13.moved hvm, a14.moved hvm, a15.moved hvm, a16.moved hvm, a17.moved hvm, a18.moved hvm⟩
theorem xGh.kept {κ : Nat → Nat} {A : Nat → Prop} {U : State} {H H1 : Heap} (h : xGh κ A U H) (hq : ∀ a : Nat, a < H.size → ¬ A a → H1[a]? = H[a]?) : xGh κ A U H1 := by
  obtain ⟨a1, a2, a3, a4, a5, a6, a7, a8, a9, a10, a11, a12, a13, a14, a15, a16, a17, a18⟩ := h
  exact ⟨a1.kept hq, a2.kept hq, a3.kept hq, a4.kept hq, a5.kept hq, a6.kept hq, a7.kept hq, a8.kept hq, a9.kept hq, a10.kept hq, a11.kept hq, a12.kept hq, a13.kept hq, a14.kept hq, a15.kept hq, a16.kept hq, a17.kept hq, a18.kept hq⟩
abbrev xIAE : String := "java/lang/IllegalArgumentException"
abbrev xISE : String := "java/lang/IllegalStateException"
abbrev xIOB : String := "java/lang/IndexOutOfBoundsException"
def xEx : Nat → String
  | 0 => xIAE
  | 1 => xISE
  | _ => xIOB
def xCasts : List (String × String) := [(xIAE, xIAE), (xISE, xISE), (xIOB, xIOB), ("Stuccohand$Wall", "Stuccohand$Wall"), ("Stuccohand$Strip", "Stuccohand$Strip"), ("Stuccohand$Coat", "Stuccohand$Coat"), ("Stuccohand$Entry", "Stuccohand$Entry"), ("Stuccohand$Profile", "Stuccohand$Profile"), ("Stuccohand$Patch", "Stuccohand$Patch"), ("Stuccohand$Wall", "java/lang/Object"), ("Stuccohand$Strip", "java/lang/Object"), ("Stuccohand$Coat", "java/lang/Object"), ("Stuccohand$Entry", "java/lang/Object"), ("Stuccohand$Profile", "java/lang/Object"), ("Stuccohand$Patch", "java/lang/Object")]
def xNots : List (String × String) := [(xIAE, xISE), (xIAE, xIOB), (xISE, xIAE), (xISE, xIOB), (xIOB, xIAE), (xIOB, xISE)]
def xMsgs : List (Nat × String) := [(45, "strips is out of range"), (54, "ground is out of range"), (62, "there are as many walls as there may be"), (74, "warmth is out of range"), (76, "wind is out of range"), (358, "no such wall"), (82, "damp is out of range"), (96, "no such strip, or none next to it"), (360, "no such strip"), (368, "to is ahead of from"), (113, "plaster is out of range"), (115, "thick is out of range"), (125, "the coat is refused"), (139, "a strip has no coat of today"), (152, "the strip has no coat"), (157, "days is out of range"), (159, "there are no days behind the last one"), (366, "no such coat"), (199, "what is out of range"), (203, "place is below 0"), (372, "depth is out of range"), (222, "there are as many profiles as there may be"), (370, "no such profile"), (233, "the profile has as many depths as it may have"), (264, "run is out of range"), (374, "repeat is out of range"), (266, "tile is out of range"), (268, "joint is out of range"), (376, "no such pigment"), (284, "no cell of the ground is told"), (289, "there are as many patches as there may be"), (381, "no such patch"), (302, "too old without secco, or not too old with it"), (318, "no such cell"), (341, "a reading is out of range"), (343, "salts is out of range"), (351, "custom is out of range"), (353, "price is out of range")]
abbrev xDecls : List MethodName := [⟨"java/lang/Object", "getClass", "()Ljava/lang/Class;"⟩, ⟨"java/lang/RuntimeException", "<init>", "(Ljava/lang/String;)V"⟩, ⟨"java/lang/Exception", "<init>", "(Ljava/lang/String;)V"⟩, ⟨"java/lang/Throwable", "<init>", "(Ljava/lang/String;)V"⟩]
def xGw (κ : Nat → Nat) (U : State) : Prop :=
  (∀ q ∈ xCasts, va_Nw (.castable q.1 q.2) U) ∧ (∀ q ∈ xNots, va_Nc q.1 q.2 U) ∧ (∀ q ∈ xMsgs, ∃ sa, vk_R "Stuccohand" q.1 q.2 sa U) ∧
  (vk_R "Stuccohand$Coat" 67 "mm" (κ 14) U ∧ vk_R "Stuccohand$Coat" 69 " dry" (κ 15) U ∧ vk_R "Stuccohand$Coat" 71 " cracked" (κ 16) U) ∧
  va_Mi "[Ljava/lang/Object;" (κ 32) U ∧ va_AO "java/lang/Object" U ∧ va_Nw (.methodLinkNest RX2 52 yX10_hasCell RX10) U ∧ ∀ q ∈ xDecls, va_Nw (.declares q) U
theorem xGw.moved {κ : Nat → Nat} {u U : State} (hW : u.WarmedH U.vm) (h : xGw κ u) : xGw κ U := by
  obtain ⟨a1, a2, a3, ⟨b1, b2, b3⟩, a4, a5, a6, a7⟩ := h
  exact ⟨fun q hq => (a1 q hq).warmC hW, fun q hq => (a2 q hq).moved hW.alike, fun q hq => (a3 q hq).imp fun _ h => h.warm hW, ⟨b1.warm hW, b2.warm hW, b3.warm hW⟩, a4.moved hW.alike, a5.moved hW.alike, a6.warmM hW, fun q hq => (a7 q hq).warmD hW⟩
/-- what a method asks of the world at its start -/
def xIn (D : va_G) (dA : Nat → ClassId) (sz0 : Nat) (κ : Nat → Nat) (U : State) : Prop := sz0 ≤ U.heap.size ∧ va_K D vwCl (xtys dA) U ∧ xGh κ (xA sz0) U U.heap ∧ xGw κ U
def xPc (D : va_G) (dA : Nat → ClassId) (sz0 : Nat) (κ : Nat → Nat) (as : List Value) (ah : xH) : Array Value → State → Prop := fun v U => v = as.toArray ∧ xHR D dA sz0 ah U.heap ∧ xIn D dA sz0 κ U
def xQc (D : va_G) (dA : Nat → ClassId) (sz0 : Nat) (R : xR → xH → Prop) : Array Value → State → Outcome → State → Prop := fun _ st oc t => (∃ r ah', oc = .returned r ∧ R (.inl r) ah' ∧ xHR D dA sz0 ah' t.heap) ∧ va_F (xA sz0) st t
def xXC (D : va_G) (dA : Nat → ClassId) (sz0 : Nat) (R : xR → xH → Prop) : String → State → State → Prop := fun E st t => (∃ n ah', xEx n = E ∧ n < 3 ∧ R (.inr n) ah' ∧ xHR D dA sz0 ah' t.heap) ∧ va_F (xA sz0) st t
/-- what the machine keeps of a method's pure meaning -/
def xMet (l : Launch) (D : va_G) (dA : Nat → ClassId) (sz0 : Nat) (κ : Nat → Nat) : xM := fun y as ah R => vx_Met l (xnm y) (xws y) (xrm y) (xPc D dA sz0 κ as ah) (xQc D dA sz0 R) (xXC D dA sz0 R) (xmc y) (xms y) (xA sz0)
theorem xPc_blind {D : va_G} {dA : Nat → ClassId} {sz0 : Nat} {κ : Nat → Nat} {as : List Value} {ah : xH} : FrameBlind (xPc D dA sz0 κ as ah) := by
  intro a U g mk h
  obtain ⟨h1, h2, h3, h4, h5, h6⟩ := h
  have hvm : U.vm.Alike (U.calling g mk a).vm := Vm.Alike.refl U.vm
  exact ⟨h1, h2, h3, va_K.moved hvm h4, h5.moved hvm, h6.moved (State.WarmedH.refl U)⟩
/-- the method's own context: machine, code, words, constants -/
def xCx (l : Launch) (D : va_G) (dA : Nat → ClassId) (sz0 : Nat) (κ : Nat → Nat) (cc : ByteArray) (own : String) (nL : Nat) (hh : List (Nat × Nat × Nat × Nat)) (p : Program) (s : State) (m : MethodId) (args : Array Value) (meth : Method) (c : Code) : Prop :=
  p.tables.exec = Jvm.exec ∧ c.code = cc ∧ c.maxLocals = nL ∧ s.vm.findClass own = some m.cls ∧ (∀ w ∈ xWds, w.before args s = true) ∧ xIn D dA sz0 κ s ∧ l.stackTraces = false ∧ meth.locks = false ∧ c.exceptionTable.toList = tableOf hh
def xAt (D : va_G) (dA : Nat → ClassId) (sz0 : Nat) (nL : Nat) (p : Program) (l : Launch) (e : Env) (R : Room) (s : State) (m : MethodId) (args : Array Value) (below : List Frame) (meth : Method) (c : Code) (Q : State → Prop) (f : xC) : Prop :=
  ∀ (H : Heap) (locs : List Loc) (L : Array Slot) (cells slots : Nat), xHR D dA sz0 f.2.2.2.1 H → va_S (xA sz0) s.heap H locs → xLR L nL f.2.1 → cells + f.2.2.2.2.1 ≤ R.cells → slots + f.2.2.2.2.2 ≤ R.slots → W p l e R s m args below meth c H locs cells slots Q (F0 m f.1 L f.2.2.1)
/-- how a method's pure end is its machine's end -/
abbrev xFn : Type := Room → State → Array Value → List Frame → Method → (xR → xH → Prop) → (State → Prop) → Prop
def xFm (D : va_G) (dA : Nat → ClassId) (sz0 : Nat) (ret : Option FieldType) (nm : String) : xFn := fun R s args below meth Rr Q => Q = vx_MQ below (xQc D dA sz0 Rr) (xXC D dA sz0 Rr) args s R.cells R.slots (xA sz0) ∧ meth.sig.returnType = ret ∧ meth.name = nm
/-- an instruction of the table is what the machine does there -/
def xSnd (l : Launch) (D : va_G) (dA : Nat → ClassId) (sz0 : Nat) (κ : Nat → Nat) (cc : ByteArray) (own : String) (nL : Nat) (hh : List (Nat × Nat × Nat × Nat)) (fr lo : Nat) (Fn : xFn) (pc : Nat) (i : xI) : Prop :=
  ∀ (p : Program) (e : Env) (R : Room) (s : State) (m : MethodId) (args : Array Value) (below : List Frame) (meth : Method) (c : Code) (Q : State → Prop) (Rr : xR → xH → Prop) (P : xC → Prop) (ls : xL) (st : List Value) (ah : xH) (k n : Nat),
    xCx l D dA sz0 κ cc own nL hh p s m args meth c → fr ≤ R.frames → lo ≤ R.locals → Fn R s args below meth Rr Q → (∀ f, P f → xAt D dA sz0 nL p l e R s m args below meth c Q f) →
    i.1 (xMet l D dA sz0 κ) ls st ah k n P Rr → xAt D dA sz0 nL p l e R s m args below meth c Q (pc, ls, st, ah, k, n)
