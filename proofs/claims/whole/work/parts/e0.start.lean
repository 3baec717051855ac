/-! the law from its entry to its end -/
theorem whole_start {p : Program} {e : Env} {s : State} {m : MethodId} {below : List Frame} {meth : Method} {c : Code} (l : Launch) (hflags : l.flags = flags0) {b L : Nat} {xs : Nat → Int32} (hL : L ≤ 3584) (C0 : lw_At p s m meth c b L xs) (htb : c.exceptionTable.toList = tableOf []) : W p l e room_1 s m #[Value.ref b] below meth c s.heap [] 0 0 (lw_Z below #[Value.ref b] s) (entryFrame m ([Value.ref b] : List Value).toArray 8) := by
  obtain ⟨D, dA, hK⟩ := wK C0
  obtain ⟨κ, ⟨hGh, hGw⟩, hKI, hKS⟩ := wAll C0
  have hst : l.stackTraces = false := by
    unfold Launch.stackTraces
    rw [hflags]
    decide
  have C : xCx l D dA s.heap.size κ cL_law RL 8 [] p s m #[Value.ref b] meth c := ⟨C0.1, C0.2.1, C0.2.2.2.1, C0.2.2.2.2.1, wxd C0, ⟨Nat.le_refl _, hK, hGh, hGw⟩, hst, C0.2.2.2.2.2.2.2.2.1, htb⟩
  have h0 : xHR D dA s.heap.size (fun _ => none) s.heap := ⟨[], fun k q h => by simp at h, ⟨fun i j p q h => by simp at h, fun k q h => by simp at h⟩, fun a e h => nomatch h, fun k q h => by simp at h⟩
  have hw : xW (TL κ b L xs) (xMet l D dA s.heap.size κ) (fun r _ => r = .inl (some (.int 1))) (0, [some (.ref b), none, none, none, none, none, none, none], [], (fun _ => none), 500000, 6000000) := xW_mono (fun y a h Q hq => xAll hst hq) (fun _ _ h => h) (law_all hKI hKS hL (R := fun r _ => r = .inl (some (.int 1))) (fun _ => rfl))
  have hA := xW_at (R := room_1) (e := e) (below := below) (Q := lw_Z below #[Value.ref b] s) SL C (Nat.le_of_ble_eq_true rfl) (Nat.le_of_ble_eq_true rfl) ⟨rfl, rfl, rfl, C0.2.2.1, Nat.le_refl _, C0.2.2.2.2.2.2.1, C0.2.2.2.2.2.2.2.1, fun r ah h => h⟩ hw
  have hLR := xEnt_LR (as := [Value.ref b]) (n := 8) (show (lg_sl [Value.ref b]).length ≤ 8 from by decide)
  rw [lg_entry_eq]
  exact hA s.heap [] _ 0 0 h0 va_S.rf hLR (Nat.le_of_ble_eq_true rfl) (Nat.le_of_ble_eq_true rfl)
