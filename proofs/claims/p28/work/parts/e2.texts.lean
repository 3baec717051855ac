/-! the world at the law's entry: texts -/
abbrev tTx (i : Nat) : Term := if i < 4 then .string "Stuccohand$Plaster" ([53, 59, 62, 65].getD i 0) else .string "Stuccohand$Coat" ([67, 69, 71].getD (i - 4) 0)
abbrev tSt : List Nat := [1421, 1429, 1439, 1411, 897, 903, 911]
abbrev tCd (i : Nat) : List Cond := [Cond.exactly (tTx i) "java/lang/String", Cond.eq (.field (tTx i) "java/lang/String" "coder" "B") (.int 0), Cond.arrayOf (.field (tTx i) "java/lang/String" "value" "[B") .byte, Cond.eq (.length (.field (tTx i) "java/lang/String" "value" "[B")) (.int (Int32.ofNat (xLen.getD i 0)))] ++ (List.range (xLen.getD i 0)).map (fun k => Cond.eq (.elem (.field (tTx i) "java/lang/String" "value" "[B") (.int (Int32.ofNat k))) (.int ((xByt.getD i []).getD k 0)))
theorem mTx : ∀ i, i < 7 → (nCs.drop (tSt.getD i 0)).take (4 + xLen.getD i 0) = tCd i := by decide +kernel
theorem mTx_in {i : Nat} (hi : i < 7) {w : Cond} (h : w ∈ tCd i) : w ∈ nCs := by
  rw [← mTx i hi] at h
  exact List.mem_of_mem_drop (List.mem_of_mem_take h)
theorem va_Tne {ty : FieldType} {t N N' : Nat} {f f' : Nat → Value} {A A' : Nat → Prop} {U : State} {H : Heap} (h : va_T ty t N f A U H) (h' : va_T ty t N' f' A' U H) : Int32.ofNat N = Int32.ofNat N' ∧ ∀ j, j < N → j < N' → f j = f' j := by
  obtain ⟨c, a1, a2, a3, a4, a5, a6, a7⟩ := h
  obtain ⟨c', b1, b2, b3, b4, b5, b6, b7⟩ := h'
  rw [a1] at b1
  cases b1
  exact ⟨a5.symm.trans b5, fun j h1 h2 => Option.some.inj ((a6 j h1).symm.trans (b6 j h2))⟩
theorem va_OFeq {o n d : String} {v v' : Value} {t : Nat} {A A' : Nat → Prop} {U : State} {H : Heap} (h : va_OF o n d v t A U H) (h' : va_OF o n d v' t A' U H) : v = v' := by
  obtain ⟨cf, k, i, f, cell, a1, a2, a3, a4, a5, a6⟩ := h
  obtain ⟨cf', k', i', f', cell', b1, b2, b3, b4, b5, b6⟩ := h'
  rw [a1] at b1
  cases b1
  rw [a3] at b3
  cases b3
  exact Option.some.inj (a5.symm.trans b5)
section
variable {p : Program} {s : State} {m : MethodId} {meth : Method} {c : Code} {b L : Nat} {xs : Nat → Int32}
theorem wTx1 (C0 : lw_At p s m meth c b L xs) {i : Nat} (hi : i < 7) : ∃ q : Nat × Nat, (tTx i).eval #[Value.ref b] s none [] s = some (.ref q.1) ∧ va_O "java/lang/String" q.1 (xA s.heap.size) s s.heap ∧ va_OF "java/lang/String" "coder" "B" (.int 0) q.1 (xA s.heap.size) s s.heap ∧ va_OF "java/lang/String" "value" "[B" (.ref q.2) q.1 (xA s.heap.size) s s.heap ∧ va_T .byte q.2 (xLen.getD i 0) (fun j => .int ((xByt.getD i []).getD j 0)) (xA s.heap.size) s s.heap := by
  obtain ⟨aK, aV, ⟨h1, -⟩, h2⟩ := vk_Sof (args := #[Value.ref b]) (s := s) (N := 1) (tm := fun _ => tTx i) (len := [xLen.getD i 0]) (byt := [xByt.getD i []]) (A := xA s.heap.size)
    (fun j hj => by
      have : j = 0 := by omega
      subst this
      exact (show ∀ i, i < 7 → xLen.getD i 0 < 2 ^ 31 from by decide) i hi)
    (fun _ _ => wna C0 (mTx_in hi (List.mem_append_left _ List.mem_cons_self)))
    (fun _ _ => wna C0 (mTx_in hi (List.mem_append_left _ (List.mem_cons_of_mem _ List.mem_cons_self))))
    (fun _ _ => wna C0 (mTx_in hi (List.mem_append_left _ (List.mem_cons_of_mem _ (List.mem_cons_of_mem _ List.mem_cons_self)))))
    (fun j hj => by
      have : j = 0 := by omega
      subst this
      exact wna C0 (mTx_in hi (List.mem_append_left _ (List.mem_cons_of_mem _ (List.mem_cons_of_mem _ (List.mem_cons_of_mem _ List.mem_cons_self))))))
    (fun j hj k hk => by
      have : j = 0 := by omega
      subst this
      exact wna C0 (mTx_in hi (List.mem_append_right _ (List.mem_map.mpr ⟨k, List.mem_range.mpr hk, rfl⟩))))
    (fun j k hj hk hne => absurd (show j = k by omega) hne) hA0
  exact ⟨(aK 0, aV 0), h2 0 (by decide), h1 0 (by decide)⟩
theorem wTx (C0 : lw_At p s m meth c b L xs) : ∃ adK adV : Nat → Nat, vk_S 7 xLen xByt adK adV (xA s.heap.size) s s.heap ∧ (∀ i, i < 7 → (tTx i).eval #[Value.ref b] s none [] s = some (.ref (adK i))) ∧ ∀ i j, i < 7 → j < 7 → adV i = adV j → i = j := by
  have h0 : ∀ i : Nat, ∃ q : Nat × Nat, i < 7 → (tTx i).eval #[Value.ref b] s none [] s = some (.ref q.1) ∧ va_O "java/lang/String" q.1 (xA s.heap.size) s s.heap ∧ va_OF "java/lang/String" "coder" "B" (.int 0) q.1 (xA s.heap.size) s s.heap ∧ va_OF "java/lang/String" "value" "[B" (.ref q.2) q.1 (xA s.heap.size) s s.heap ∧ va_T .byte q.2 (xLen.getD i 0) (fun j => .int ((xByt.getD i []).getD j 0)) (xA s.heap.size) s s.heap := fun i => by
    by_cases hi : i < 7
    · obtain ⟨q, hq⟩ := wTx1 C0 hi
      exact ⟨q, fun _ => hq⟩
    · exact ⟨(0, 0), fun q => absurd q hi⟩
  obtain ⟨g, hg⟩ := Classical.skolem.mp h0
  have hV : ∀ i j, i < 7 → j < 7 → (g i).2 = (g j).2 → i = j := fun i j hi hj e => by
    obtain ⟨-, -, -, -, t1⟩ := hg i hi
    obtain ⟨-, -, -, -, t2⟩ := hg j hj
    rw [e] at t1
    obtain ⟨e1, e2⟩ := va_Tne t1 t2
    refine Classical.byContradiction (fun hne => ?_)
    have := (show ∀ i, i < 7 → ∀ j, j < 7 → i ≠ j → Int32.ofNat (xLen.getD i 0) = Int32.ofNat (xLen.getD j 0) → (List.range 8).any (fun k => decide (k < xLen.getD i 0 ∧ k < xLen.getD j 0 ∧ (xByt.getD i []).getD k 0 ≠ (xByt.getD j []).getD k 0)) = true from by decide +kernel) i hi j hj hne e1
    obtain ⟨k, -, hk⟩ := List.any_eq_true.mp this
    obtain ⟨k1, k2, k3⟩ := of_decide_eq_true hk
    have := e2 k k1 k2
    simp only [Value.int.injEq] at this
    exact k3 this
  refine ⟨fun i => (g i).1, fun i => (g i).2, ⟨fun i hi => (hg i hi).2, fun i j hi hj e => ?_⟩, fun i hi => (hg i hi).1, hV⟩
  have e' : (g i).1 = (g j).1 := e
  obtain ⟨-, -, -, v1, -⟩ := hg i hi
  obtain ⟨-, -, -, v2, -⟩ := hg j hj
  rw [e'] at v1
  have := va_OFeq v1 v2
  simp only [Value.ref.injEq] at this
  exact hV i j hi hj this
end
