/-! the world at the law's entry: words and classes -/
theorem xSelP {y y0 : MethodName} {s : State} {args : Array Value} (hcl : y0.cls = y.cls) (hy : y.cls ≠ "java/lang/invoke/MethodHandle" ∧ y.cls ≠ "java/lang/invoke/VarHandle")
    (h0 : (Cond.selects "java/lang/StringBuilder" y0 y0).before args s = true) (hpriv : (Cond.privateMethod y).before args s = true) (hinst : (Cond.instanceMethod y).before args s = true) : (Cond.selects "java/lang/StringBuilder" y y).before args s = true := by
  obtain ⟨mk, methM, hnamed, hmethM, -, -⟩ := Cond.instanceMethod_spec hinst
  have hfound : s.methodFound? y.cls y.name y.desc = some mk := State.methodFound?_of_named hnamed hy
  have hm : s.vm.findClass y.cls = some mk.cls := findClass_of_methodNamed hnamed
  simp only [Cond.before, Cond.holds, Cond.value] at h0
  cases hc : s.vm.findClass "java/lang/StringBuilder" with
  | none => rw [hc] at h0; simp at h0
  | some c =>
    cases hr : s.methodFound? y0.cls y0.name y0.desc with
    | none => rw [hc, hr] at h0; simp at h0
    | some r =>
      cases hn : s.methodNamed? y0 with
      | none => rw [hc, hr, hn] at h0; simp at h0
      | some m0 =>
        have hm0 : s.vm.findClass y0.cls = some m0.cls := findClass_of_methodNamed hn
        have e : m0.cls = mk.cls := Option.some.inj (hm0.symm.trans (by rw [hcl]; exact hm))
        rw [hc, hr, hn] at h0
        have hsel : selectMethod {} s.vm c mk = .method mk := selectMethod_private hmethM (Cond.privateMethod_at hpriv mk methM hnamed hmethM)
        simp only [Cond.before, Cond.holds, Cond.value, hc, hfound, hnamed, hsel]
        have h1 : Option.any (fun x => !x.isInterface) s.vm.classes[m0.cls]? = true := by
          dsimp only at h0
          split at h0
          · simp only [beq_iff_eq, Option.some.injEq, Bool.and_eq_true] at h0
            exact h0.2
          · simp at h0
        rw [e] at h1
        simp only [decide_true, Bool.true_and, beq_iff_eq, Option.some.injEq]
        exact h1
def xy0 : MethodName := ⟨"java/lang/AbstractStringBuilder", "isLatin1", "()Z"⟩
section
variable {p : Program} {s : State} {m : MethodId} {meth : Method} {c : Code} {b L : Nat} {xs : Nat → Int32}
theorem wlw (C0 : lw_At p s m meth c b L xs) : ∀ w ∈ lw_tbl, w.before #[Value.ref b] s = true := C0.2.2.2.2.2.1
theorem wtb (C0 : lw_At p s m meth c b L xs) {w : Cond} (h : w ∈ tables_1) : w.before #[Value.ref b] s = true := wlw C0 w (List.mem_append_right _ h)
theorem wna (C0 : lw_At p s m meth c b L xs) {w : Cond} (h : w ∈ flatC (Jvm.Cond.and given_1 narrow_1)) : w.before #[Value.ref b] s = true := flat_of_before _ C0.2.2.2.2.2.2.2.2.2 w h
theorem wxd' (C0 : lw_At p s m meth c b L xs) {w : Cond} (h : w ∈ xWds) (hn : w ∉ xPrv := by decide +kernel) : w.before #[Value.ref b] s = true := (List.mem_append.mp (List.mem_filter.mp h).1).elim (fun q => absurd q hn) (wlw C0 w)
theorem wxd (C0 : lw_At p s m meth c b L xs) : ∀ w ∈ xWds, w.before #[Value.ref b] s = true := by
  intro w hw
  rcases List.mem_append.mp (List.mem_filter.mp hw).1 with h | h
  · have h0 : (Cond.selects "java/lang/StringBuilder" xy0 xy0).before #[Value.ref b] s = true := wtb C0 (List.mem_of_getElem? (i := 724) (by decide +kernel))
    unfold xPrv at h
    simp only [List.map_cons, List.map_nil, List.mem_cons, List.not_mem_nil, or_false] at h
    rcases h with rfl | rfl | rfl | rfl
    · exact xSelP (y0 := xy0) rfl (by decide +kernel) h0 (wtb C0 (List.mem_of_getElem? (i := 702) (by decide +kernel))) (wxd' C0 in_110)
    · exact xSelP (y0 := xy0) rfl (by decide +kernel) h0 (wtb C0 (List.mem_of_getElem? (i := 766) (by decide +kernel))) (wxd' C0 in_112)
    · exact xSelP (y0 := xy0) rfl (by decide +kernel) h0 (wtb C0 (List.mem_of_getElem? (i := 706) (by decide +kernel))) (wxd' C0 in_115)
    · exact xSelP (y0 := xy0) rfl (by decide +kernel) h0 (wtb C0 (List.mem_of_getElem? (i := 762) (by decide +kernel))) (wxd' C0 in_116)
  · exact wlw C0 w h
/-- the classes of arrays -/
theorem arrw {s : State} {a : Array Value} {ty : FieldType} (h : (Cond.arrayClass ty).before a s = true) : ∃ cA, ArrOfT s cA ty ∧ s.vm.findClass ("[" ++ ty.toString) = some cA := by
  obtain ⟨cA, kA, comp, h1, h2, h3⟩ := Cond.arrayClass_spec h
  exact ⟨cA, fun n z => ⟨(fun k h => by cases h), kA, h2, comp, h3⟩, h1⟩
theorem arrws (C0 : lw_At p s m meth c b L xs) : ∃ dA : Nat → ClassId, ∀ (k : Nat) (q : ClassId × FieldType), (xtys dA)[k]? = some q → ArrOfT s q.1 q.2 ∧ va_RA s q.1 q.2 := by
  obtain ⟨c0, h0, g0⟩ := arrw (wtb C0 (w := .arrayClass .int) (List.mem_of_getElem? (i := 102) (by decide +kernel)))
  obtain ⟨c2, h2, g2⟩ := arrw (wtb C0 (w := .arrayClass .byte) (List.mem_of_getElem? (i := 212) (by decide +kernel)))
  obtain ⟨comp, c5, k5, f1, f2, f3, f4, f5⟩ := Cond.arrayOver_spec (wtb C0 (w := .arrayOver (.object "java/lang/Object")) (List.mem_of_getElem? (i := 423) (by decide +kernel)))
  refine ⟨fun k => [c0, c0, c2, c0, c0, c5].getD k c0, fun k q hq => ?_⟩
  have hk : k < 6 := (List.getElem?_eq_some_iff.mp hq).1
  have : k = 0 ∨ k = 1 ∨ k = 2 ∨ k = 3 ∨ k = 4 ∨ k = 5 := by omega
  rcases this with rfl | rfl | rfl | rfl | rfl | rfl <;> cases hq
  · exact ⟨h0, g0⟩
  · exact ⟨h0, g0⟩
  · exact ⟨h2, g2⟩
  · exact ⟨h0, g0⟩
  · exact ⟨h0, g0⟩
  · exact ⟨fun n z => ⟨(fun k h => by cases h), k5, f3, comp, f4⟩, k5, comp, f3, f4, f1, f5⟩
theorem knows (C0 : lw_At p s m meth c b L xs) : ∃ D : va_G, ∀ (ci : Nat) (q : vw_C), vwCl[ci]? = some q → u_Kn s q.1 q.2.1 q.2.2 (D.1 ci) (D.2 ci) := by
  have hX := wxd C0
  have kn : ∀ {C : String} {T : u_T} {N n : Nat}, (∀ w ∈ u_ws C T N, w ∈ xWds) → (Cond.instantiable C n) ∈ tables_1 → ∃ q : ClassId × (Nat → Nat), u_Kn s C T N q.1 q.2 := fun h1 h2 => by
    obtain ⟨cC, iS, h⟩ := u_known hX h1 (wtb C0 h2)
    exact ⟨(cC, iS), h⟩
  obtain ⟨d0, k0⟩ := kn inX_J4 (n := 4) (List.mem_of_getElem? (i := 661) (by decide +kernel))
  obtain ⟨d1, k1⟩ := kn inX_Jx4a65c (n := 3) (List.mem_of_getElem? (i := 44) (by decide +kernel))
  obtain ⟨d2, k2⟩ := kn inX_X0 (n := 6) (List.mem_of_getElem? (i := 531) (by decide +kernel))
  obtain ⟨d3, k3⟩ := kn inX_X1 (n := 4) (List.mem_of_getElem? (i := 503) (by decide +kernel))
  obtain ⟨d4, k4⟩ := kn inX_X2 (n := 4) (List.mem_of_getElem? (i := 82) (by decide +kernel))
  obtain ⟨d5, k5⟩ := kn inX_X4 (n := 1) (List.mem_of_getElem? (i := 70) (by decide +kernel))
  obtain ⟨d6, k6⟩ := kn inX_X5 (n := 2) (List.mem_of_getElem? (i := 1021) (by decide +kernel))
  obtain ⟨d7, k7⟩ := kn inX_X7 (n := 2) (List.mem_of_getElem? (i := 872) (by decide +kernel))
  obtain ⟨d8, k8⟩ := kn inX_X8 (n := 3) (List.mem_of_getElem? (i := 352) (by decide +kernel))
  obtain ⟨d9, k9⟩ := kn inX_X9 (n := 2) (List.mem_of_getElem? (i := 345) (by decide +kernel))
  obtain ⟨d10, k10⟩ := kn inX_X10 (n := 7) (List.mem_of_getElem? (i := 36) (by decide +kernel))
  refine ⟨(fun i => ([d0, d1, d2, d3, d4, d5, d6, d7, d8, d9, d10].getD i d0).1, fun i => ([d0, d1, d2, d3, d4, d5, d6, d7, d8, d9, d10].getD i d0).2), fun k q hq => ?_⟩
  have hk : k < 11 := (List.getElem?_eq_some_iff.mp hq).1
  have : k = 0 ∨ k = 1 ∨ k = 2 ∨ k = 3 ∨ k = 4 ∨ k = 5 ∨ k = 6 ∨ k = 7 ∨ k = 8 ∨ k = 9 ∨ k = 10 := by omega
  rcases this with rfl | rfl | rfl | rfl | rfl | rfl | rfl | rfl | rfl | rfl | rfl <;> cases hq
  · exact k0
  · exact k1
  · exact k2
  · exact k3
  · exact k4
  · exact k5
  · exact k6
  · exact k7
  · exact k8
  · exact k9
  · exact k10
theorem wK (C0 : lw_At p s m meth c b L xs) : ∃ (D : va_G) (dA : Nat → ClassId), va_K D vwCl (xtys dA) s := by
  obtain ⟨D, h1⟩ := knows C0
  obtain ⟨dA, h2⟩ := arrws C0
  exact ⟨D, dA, h1, h2⟩
end
