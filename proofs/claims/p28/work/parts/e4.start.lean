/-! the law from its entry to its end -/
theorem st_flags (l : Launch) (hflags : l.flags = flags0) : l.stackTraces = false := by
  have h : noTraceFlag ∈ flags0 := List.mem_append_right _ List.mem_cons_self
  unfold Launch.stackTraces
  rw [hflags]
  simp [h]
theorem st_heap {D : va_G} {dA : Nat → ClassId} {sz0 : Nat} {H : Heap} : xHR D dA sz0 (fun _ => none) H := by
  refine ⟨[], ?_, ⟨?_, ?_⟩, ?_, ?_⟩
  · intro k q h
    simp at h
  · intro i j p q h
    simp at h
  · intro k q h
    simp at h
  · intro a e h
    cases h
  · intro k q h
    simp at h
theorem st_fit {b : Nat} : xfit [Value.ref b] 18 := Nat.le_of_ble_eq_true rfl
theorem st_LR {b : Nat} : xLR ((lg_sl [Value.ref b] ++ List.replicate (18 - (lg_sl [Value.ref b]).length) Slot.unset).toArray) 18 [some (.ref b), none, none, none, none, none, none, none, none, none, none, none, none, none, none, none, none, none] := xEnt_LR (as := [Value.ref b]) (n := 18) st_fit
theorem st_c : 0 + 500000 ≤ room_1.cells := Nat.le_of_ble_eq_true rfl
theorem st_s : 0 + 5000000 ≤ room_1.slots := Nat.le_of_ble_eq_true rfl
theorem st_f : 13 ≤ room_1.frames := Nat.le_of_ble_eq_true rfl
theorem st_l : 360 ≤ room_1.locals := Nat.le_of_ble_eq_true rfl
section
variable {p : Program} {e : Env} {s : State} {m : MethodId} {below : List Frame} {meth : Method} {c : Code} {l : Launch} {b L : Nat} {xs : Nat → Int32} {D : va_G} {dA : Nat → ClassId} {κ : Nat → Nat}
theorem st_C (hst : l.stackTraces = false) (C0 : lw_At p s m meth c b L xs) (htb : c.exceptionTable.toList = tableOf []) (hK : va_K D vwCl (xtys dA) s) (hGh : xGh κ (xA s.heap.size) s s.heap) (hGw : xGw κ s) : xCx l D dA s.heap.size κ cL_law RL 18 [] p s m #[Value.ref b] meth c :=
  ⟨C0.1, C0.2.1, C0.2.2.2.1, C0.2.2.2.2.1, wxd C0, ⟨Nat.le_refl _, hK, hGh, hGw⟩, hst, C0.2.2.2.2.2.2.2.2.1, htb⟩
theorem st_w {sz0 : Nat} (hst : l.stackTraces = false) (hL : L ≤ 260) (hKI : KI κ) (hKS : KS κ) (hb : κ 34 = b) (hl : κ 35 = L) : xW (T151 κ) (xMet l D dA sz0 κ) (fun r _ => r = .inl (some (.int 1))) (0, [some (.ref b), none, none, none, none, none, none, none, none, none, none, none, none, none, none, none, none, none], [], (fun _ => none), 500000, 5000000) := by
  subst hb
  exact xW_mono (fun y a h Q hq => xAll hst hq) (fun _ _ h => h) (law_all hKI hKS (by omega) (R := fun r _ => r = .inl (some (.int 1))) (fun _ => rfl))
theorem st_Fl (C0 : lw_At p s m meth c b L xs) : xFl b s.heap.size room_1 s #[Value.ref b] below meth (fun r _ => r = .inl (some (.int 1))) (lw_Z below #[Value.ref b] s) :=
  ⟨rfl, rfl, rfl, C0.2.2.1, Nat.le_refl _, fun r ah h => h⟩
theorem st_at (C0 : lw_At p s m meth c b L xs) (C : xCx l D dA s.heap.size κ cL_law RL 18 [] p s m #[Value.ref b] meth c) (hw : xW (T151 κ) (xMet l D dA s.heap.size κ) (fun r _ => r = .inl (some (.int 1))) (0, [some (.ref b), none, none, none, none, none, none, none, none, none, none, none, none, none, none, none, none, none], [], (fun _ => none), 500000, 5000000)) : xAt D dA s.heap.size 18 p l e room_1 s m #[Value.ref b] below meth c (lw_Z below #[Value.ref b] s) (0, [some (.ref b), none, none, none, none, none, none, none, none, none, none, none, none, none, none, none, none, none], [], (fun _ => none), 500000, 5000000) :=
  xW_at (fun pc => SL pc) C st_f st_l (st_Fl C0) hw
end
theorem whole_start {p : Program} {e : Env} {s : State} {m : MethodId} {below : List Frame} {meth : Method} {c : Code} (l : Launch) (hflags : l.flags = flags0) {b L : Nat} {xs : Nat → Int32} (hL : L ≤ 260) (C0 : lw_At p s m meth c b L xs) (htb : c.exceptionTable.toList = tableOf []) : W p l e room_1 s m #[Value.ref b] below meth c s.heap [] 0 0 (lw_Z below #[Value.ref b] s) (entryFrame m ([Value.ref b] : List Value).toArray 18) := by
  obtain ⟨D, dA, hK⟩ := wK C0
  obtain ⟨κ, ⟨hGh, hGw⟩, ⟨hKI, hKS⟩, hb, hl⟩ := wAll hL C0
  have hst := st_flags l hflags
  have hA := st_at (e := e) (below := below) C0 (st_C hst C0 htb hK hGh hGw) (st_w hst hL hKI hKS hb hl)
  rw [lg_entry_eq]
  exact hA s.heap [] _ 0 0 st_heap va_S.rf st_LR st_c st_s
