/-! THE MACHINE: how a heap of known cells (xH) stands in the machine's heap, and what a method's pure meaning is worth there -/
/-- the private methods of AbstractStringBuilder, as a StringBuilder's: what the tables' other words give -/
def xPrv : List Cond := [110, 112, 115, 116].map fun y => Cond.selects "java/lang/StringBuilder" (xnm y) (xnm y)
def xWds : List Cond := (xPrv ++ lw_tbl).filter goodWord
theorem xWp {w : Cond} (h : w ∈ xPrv) (g : goodWord w = true) : w ∈ xWds := List.mem_filter.mpr ⟨List.mem_append_left _ h, g⟩
theorem xWds_in {w : Cond} (h : w ∈ lw_tbl) (g : goodWord w = true) : w ∈ xWds := List.mem_filter.mpr ⟨List.mem_append_right _ h, g⟩
theorem xW1 {w : Cond} (h : w ∈ tables_1) (g : goodWord w = true) : w ∈ xWds := xWds_in (List.mem_append_right _ h) g
theorem xWg {w : Cond} (h : w ∈ xWds) : goodWord w = true := (List.mem_filter.mp h).2
theorem xGI {pre : List Cond} {c : Cond} (h1 : ∀ w ∈ pre, w ∈ xWds) (h2 : c ∈ xWds) : GoodIn xWds (pre ++ c :: xWds) := by
  have h : ∀ w ∈ pre ++ c :: xWds, w ∈ xWds := by
    intro w hw
    rcases List.mem_append.mp hw with hw | hw
    · exact h1 w hw
    · rcases List.mem_cons.mp hw with hw | hw
      · rw [hw]; exact h2
      · exact hw
  exact fun w hw => ⟨h w hw, good_of_word (xWg (h w hw))⟩
def xws (y : Nat) : List Cond := xcw y :: xWds
def xrm (y : Nat) : Room := { frames := xfr y, cells := xmc y, slots := xms y, locals := xlo y }
/-- the heap -/
def xtr (dA : Nat → ClassId) : xO → va_E
  | .inl x => .inl (dA x.1, x.2)
  | .inr o => .inr o
def xtys (dA : Nat → ClassId) : List (ClassId × FieldType) := [(dA 0, .int), (dA 1, .int), (dA 2, .byte), (dA 3, .int), (dA 4, .int), (dA 5, .object "java/lang/Object")]
def xA (sz0 : Nat) : Nat → Prop := fun q => sz0 ≤ q
def xHR (D : va_G) (dA : Nat → ClassId) (sz0 : Nat) (ah : xH) (H : Heap) : Prop := ∃ ws : va_W, va_P D vwCl ws H ∧ va_D (xA sz0) ws ∧ (∀ a e, ah a = some e → ∃ k : Nat, ws[k]? = some (a, xtr dA e)) ∧ ∀ (k : Nat) q, ws[k]? = some q → ∃ e, ah q.1 = some e
theorem xup_self (ah : xH) (q : Nat) (o : xO) : xup ah q o q = some o := if_pos rfl
theorem xup_ne (ah : xH) {q a : Nat} (o : xO) (h : a ≠ q) : xup ah q o a = ah a := if_neg h
/-- a cell that is known: its place among the words, and what a write of it gives -/
theorem xHR_at {D : va_G} {dA : Nat → ClassId} {sz0 : Nat} {ah : xH} {H : Heap} {a : Nat} {e : xO} (h : xHR D dA sz0 ah H) (ha : ah a = some e) : ∃ (ws : va_W) (k : Nat), va_P D vwCl ws H ∧ va_D (xA sz0) ws ∧ ws[k]? = some (a, xtr dA e) ∧ (∀ b f, ah b = some f → ∃ j : Nat, ws[j]? = some (b, xtr dA f)) ∧ ∀ (e' : xO) (H1 : Heap), va_P D vwCl (ws.set k (a, xtr dA e')) H1 → va_D (xA sz0) (ws.set k (a, xtr dA e')) → xHR D dA sz0 (xup ah a e') H1 := by
  obtain ⟨ws, hP, hD, h1, h2⟩ := h
  obtain ⟨k, hk⟩ := h1 a e ha
  refine ⟨ws, k, hP, hD, hk, h1, fun e' H1 hP1 hD1 => ⟨_, hP1, hD1, fun b f hb => ?_, fun j q hj => ?_⟩⟩
  · have hkl : k < ws.length := (List.getElem?_eq_some_iff.mp hk).1
    by_cases hba : b = a
    · subst hba
      rw [xup_self] at hb
      cases hb
      exact ⟨k, by rw [List.getElem?_set_self hkl]⟩
    · rw [xup_ne _ _ hba] at hb
      obtain ⟨j, hj⟩ := h1 b f hb
      refine ⟨j, ?_⟩
      rw [List.getElem?_set_ne]
      · exact hj
      · intro e
        subst e
        rw [hk] at hj
        exact hba (Prod.mk.inj (Option.some.inj hj)).1.symm
  · by_cases hjk : j = k
    · subst hjk
      have hkl : j < ws.length := (List.getElem?_eq_some_iff.mp hk).1
      rw [List.getElem?_set_self hkl] at hj
      cases hj
      exact ⟨e', xup_self _ _ _⟩
    · rw [List.getElem?_set_ne (fun h => hjk h.symm)] at hj
      obtain ⟨f, hf⟩ := h2 j q hj
      by_cases hqa : q.1 = a
      · exact ⟨e', by rw [hqa]; exact xup_self _ _ _⟩
      · exact ⟨f, by rw [xup_ne _ _ hqa]; exact hf⟩
theorem xHR_new {D : va_G} {dA : Nat → ClassId} {sz0 : Nat} {ah : xH} {H : Heap} (h : xHR D dA sz0 ah H) : ∃ ws : va_W, va_P D vwCl ws H ∧ va_D (xA sz0) ws ∧ ∀ (q : Nat) (e : xO) (H1 : Heap), va_P D vwCl (ws ++ [(q, xtr dA e)]) H1 → va_D (xA sz0) (ws ++ [(q, xtr dA e)]) → ah q = none ∧ xHR D dA sz0 (xup ah q e) H1 := by
  obtain ⟨ws, hP, hD, h1, h2⟩ := h
  refine ⟨ws, hP, hD, fun q e H1 hP1 hD1 => ?_⟩
  have hl : (ws ++ [(q, xtr dA e)])[ws.length]? = some (q, xtr dA e) := by simp
  have hn : ah q = none := by
    cases hq : ah q with
    | none => rfl
    | some f =>
      obtain ⟨j, hj⟩ := h1 q f hq
      have hjl : j < ws.length := (List.getElem?_eq_some_iff.mp hj).1
      have hj' : (ws ++ [(q, xtr dA e)])[j]? = some (q, xtr dA f) := by rw [List.getElem?_append_left hjl]; exact hj
      exact absurd (hD1.1 j ws.length _ _ hj' hl rfl) (Nat.ne_of_lt hjl)
  refine ⟨hn, _, hP1, hD1, fun b f hb => ?_, fun j p hj => ?_⟩
  · by_cases hbq : b = q
    · subst hbq
      rw [xup_self] at hb
      cases hb
      exact ⟨_, hl⟩
    · rw [xup_ne _ _ hbq] at hb
      obtain ⟨j, hj⟩ := h1 b f hb
      have hjl : j < ws.length := (List.getElem?_eq_some_iff.mp hj).1
      exact ⟨j, by rw [List.getElem?_append_left hjl]; exact hj⟩
  · by_cases hpq : p.1 = q
    · exact ⟨e, by rw [hpq]; exact xup_self _ _ _⟩
    · rw [xup_ne _ _ hpq]
      by_cases hjl : j < ws.length
      · rw [List.getElem?_append_left hjl] at hj
        exact h2 j p hj
      · rw [List.getElem?_append_right (by omega)] at hj
        have : j - ws.length = 0 := by
          have h9 := (List.getElem?_eq_some_iff.mp hj).1
          simp at h9
          omega
        rw [this] at hj
        cases hj
        exact absurd rfl hpq
/-- locals -/
def xas (ls : xL) : List (Nat × Value) := (List.range ls.length).filterMap fun i => (xg ls i).map fun v => (i, v)
theorem xg_lt : ∀ {ls : xL} {i : Nat} {v : Value}, xg ls i = some v → i < ls.length
  | [], _, _, h => by simp [xg] at h
  | _ :: _, 0, _, _ => by simp
  | _ :: l, n + 1, v, h => by
    have := xg_lt (ls := l) (i := n) (v := v) h
    simp
    omega
theorem xas_mem {ls : xL} {i : Nat} {v : Value} : (i, v) ∈ xas ls ↔ xg ls i = some v := by
  unfold xas
  rw [List.mem_filterMap]
  constructor
  · rintro ⟨j, -, hj⟩
    cases hg : xg ls j with
    | none => rw [hg] at hj; cases hj
    | some w => rw [hg] at hj; cases hj; exact hg
  · intro h
    exact ⟨i, List.mem_range.mpr (xg_lt h), by rw [h]; rfl⟩
def xLR (L : Array Slot) (nL : Nat) (ls : xL) : Prop := lv_has L nL (xas ls)
theorem xLR_at {L : Array Slot} {nL : Nat} {ls : xL} {i : Nat} {v : Value} (h : xLR L nL ls) (hv : xg ls i = some v) : L[i]? = some (.val v) := h.2.2 (i, v) (xas_mem.mpr hv)
theorem xLR_lt {L : Array Slot} {nL : Nat} {ls : xL} {i : Nat} {v : Value} (h : xLR L nL ls) (hv : xg ls i = some v) : i < nL := by
  rw [← h.1]
  exact lv_lt (xLR_at h hv)
theorem xkill_some {a : Option Value} {v : Value} (h : xkill a = some v) : a = some v ∧ v.category ≠ 2 := by
  unfold xkill at h
  split at h
  · cases h
  · cases h
  · next n1 n2 =>
    refine ⟨h, ?_⟩
    subst h
    cases v <;> simp_all [Value.category]
theorem xs1_get : ∀ {ls : xL} {i : Nat} {v : Value} {j : Nat} {w : Value}, xg (xs1 ls i v) j = some w → (j = i ∧ w = v) ∨ (j ≠ i ∧ xg ls j = some w ∧ (j + 1 = i → w.category ≠ 2))
  | [], i, v, j, w, h => by simp [xs1, xg] at h
  | a :: l, 0, v, 0, w, h => by
    simp only [xs1, xg] at h
    exact Or.inl ⟨rfl, (Option.some.inj h).symm⟩
  | a :: l, 0, v, j + 1, w, h => Or.inr ⟨by omega, h, by omega⟩
  | a :: l, 1, v, 0, w, h => by
    simp only [xs1, xg] at h
    exact Or.inr ⟨by omega, (xkill_some h).1, fun _ => (xkill_some h).2⟩
  | a :: l, 1, v, j + 1, w, h => by
    simp only [xs1, xg] at h
    rcases xs1_get h with ⟨h1, h2⟩ | ⟨h1, h2, h3⟩
    · exact Or.inl ⟨by omega, h2⟩
    · exact Or.inr ⟨by omega, h2, by omega⟩
  | a :: l, n + 2, v, 0, w, h => Or.inr ⟨by omega, h, by omega⟩
  | a :: l, n + 2, v, j + 1, w, h => by
    simp only [xs1, xg] at h
    rcases xs1_get h with ⟨h1, h2⟩ | ⟨h1, h2, h3⟩
    · exact Or.inl ⟨by omega, h2⟩
    · exact Or.inr ⟨by omega, h2, fun e => h3 (by omega)⟩
theorem xs2_get : ∀ {ls : xL} {i : Nat} {v : Value} {j : Nat} {w : Value}, xg (xs2 ls i v) j = some w → (j = i ∧ w = v) ∨ (j ≠ i ∧ j ≠ i + 1 ∧ xg ls j = some w ∧ (j + 1 = i → w.category ≠ 2))
  | [], i, v, j, w, h => by simp [xs2, xg] at h
  | [a], i, v, 0, w, h => by simp [xs2, xg] at h
  | [a], i, v, j + 1, w, h => by simp [xs2, xg] at h
  | a :: b :: l, 0, v, 0, w, h => by
    simp only [xs2, xg] at h
    exact Or.inl ⟨rfl, (Option.some.inj h).symm⟩
  | a :: b :: l, 0, v, 1, w, h => by simp [xs2, xg] at h
  | a :: b :: l, 0, v, j + 2, w, h => Or.inr ⟨by omega, by omega, h, by omega⟩
  | a :: b :: l, 1, v, 0, w, h => by
    simp only [xs2, xg] at h
    exact Or.inr ⟨by omega, by omega, (xkill_some h).1, fun _ => (xkill_some h).2⟩
  | a :: b :: l, 1, v, j + 1, w, h => by
    simp only [xs2, xg] at h
    rcases xs2_get h with ⟨h1, h2⟩ | ⟨h1, h2, h3, h4⟩
    · exact Or.inl ⟨by omega, h2⟩
    · exact Or.inr ⟨by omega, by omega, h3, by omega⟩
  | a :: b :: l, n + 2, v, 0, w, h => Or.inr ⟨by omega, by omega, h, by omega⟩
  | a :: b :: l, n + 2, v, j + 1, w, h => by
    simp only [xs2, xg] at h
    rcases xs2_get h with ⟨h1, h2⟩ | ⟨h1, h2, h3, h4⟩
    · exact Or.inl ⟨by omega, h2⟩
    · exact Or.inr ⟨by omega, by omega, h3, fun e => h4 (by omega)⟩
