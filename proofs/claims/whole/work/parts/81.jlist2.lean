/-! lists of the JDK: what adds and takes away -/
/-- a list: never filled, or with a row of N places -/
def LL (κ : Nat → Nat) (ah : xH) (l : Nat) (mc : Int32) (e n N : Nat) (g : Nat → Nat) : Prop :=
  ah l = some (lcell mc e n) ∧ ((N = 0 ∧ n = 0 ∧ e = κ 9) ∨ (ah e = some (rcell N n g) ∧ n ≤ N ∧ N ∈ caps))
section
variable {κ : Nat → Nat} {R : xR → xH → Prop} {ah : xH} {l e n N : Nat} {mc : Int32} {g : Nat → Nat}
theorem LL.ne (h : LL κ ah l mc e n N g) (hN : ¬ N = 0) : l ≠ e := by
  obtain ⟨h1, h2 | ⟨h2, -⟩⟩ := h
  · exact absurd h2.1 hN
  · intro q
    subst q
    rw [h1] at h2
    cases h2
theorem sp_newLen (hN : N ∈ caps) (h5 : N < 512) : xm κ 179 [.int (nI N), .int 1, .int (nI (N / 2))] ah R ↔ R (.inl (some (.int (nI (N + N / 2))))) ah := by
  have h1 := caps_le N hN
  have em : (if (1 : Int32) < nI (N / 2) then nI (N / 2) else 1) = nI (N / 2) := if_pos (show nI 1 < nI (N / 2) from nI_lt (by omega) (by omega))
  have ea : nI N + nI (N / 2) = nI (N + N / 2) := nI_add _ _
  have e0 : (nI (N + N / 2) ≤ 0) = False := by rw [lle0 (by omega)]; exact eq_false (by omega)
  have e1 : ((2147483639 : Int32) < nI (N + N / 2)) = False := eq_false (show ¬ nI 2147483639 < nI (N + N / 2) from nI_nlt (by omega) (by omega))
  rw [en179]
  simp (disch := omega) only [en179, e179_0, e179_1, e179_2, e179_3, e179_6, e179_7, e179_8, e179_9, e179_10, e179_13, e179_14, e179_16, e179_19, e179_20, e179_21, e179_22, e179_26, xKv, xK0, xKx, xKHv, xKH0, xk_none, xk_i, xk_f, xk_l, xk_r, xk_n, xc_i, xc_f, xc_l, xc_d, xc_r, xc_n, xo_some, List.map_cons, List.map_nil, List.sum_cons, List.sum_nil, xnzn, xpn0, xpn1, xpnb, xpnn, i10, i00, true_imp_iff, false_imp_iff, not_true_eq_false, not_false_eq_true, true_and, and_true, implies_true, xnz0, xnz1, xnzb, xfz0, xfz1, xfzb, Option.isSome_some, if_true, if_false, xbF, xbT, and_false, false_and, Nat.zero_le, Nat.reduceEqDiff, Nat.reduceLeDiff, Nat.reduceAdd, Nat.reduceSub, xiT, xiF, em, ea, e0, e1]
theorem sp_grow (h : LL κ ah l mc e n N g) (hn : N = n) (h5 : n < 512) (hob : ∀ i, i < n → xob xoks ah (g i))
    (hR : ∀ x M, ah x = none → M ∈ caps → n + 1 ≤ M → R (.inl (some (.ref x))) (xup (xup ah x (rcell M n g)) l (lcell mc x n))) : xm κ 186 [.ref l] ah R := by
  obtain ⟨hl, hc⟩ := h
  have f1 : xfld ah l 1 1 = some (.ref e) := xfld_of hl
  have f2 : xfld ah l 1 2 = some (.int (nI n)) := xfld_of hl
  have hx : xis ah l 1 := ⟨_, hl⟩
  have ea : nI n + 1 = nI (n + 1) := (nI_succ n).symm
  rw [en186, e186_0, e186_1, e186_2, f2, xo_some, e186_5, e186_6, ea, e186_7]
  refine ⟨⟨by decide, hx, by decide, by decide⟩, ?_⟩
  rw [en185, e185_0, e185_1, f1, xo_some, e185_4]
  rcases hc with ⟨hN0, hn0, he⟩ | ⟨hr, hnN, hN⟩
  · refine Or.inl ⟨he, ?_⟩
    have e00 : Int32.ofNat 0 = 0 := rfl
    rw [e185_5, xk_i, e185_6, e185_7]
    refine ⟨fun q => absurd q (by decide), fun _ => ?_⟩
    rw [e185_10, e185_11, f1, xo_some, e185_14, e185_17]
    refine ⟨fun _ => ?_, fun q => absurd he q⟩
    have em : (if (10 : Int32) < nI (n + 1) then nI (n + 1) else 10) = nI 10 := if_neg (show ¬ nI 10 < nI (n + 1) from nI_nlt (by omega) (by omega))
    rw [e185_45, e185_46, e185_48, e185_49]
    refine ⟨show (1 + 0 : Nat) ≤ 8 from by decide, ?_⟩
    rw [em, e185_52, nI_cl (by omega)]
    refine ⟨⟨nI_pos (by omega), by omega⟩, by decide, by omega, fun x hx0 => ?_⟩
    have hlx := xis_ne hl hx0
    have hl' : xup ah x (.inl (5, 10, .inr (.inr (.inr (.inr fun _ => none))))) l = some (.inr (1, [.int mc, .ref e, .int (nI n)])) := by rw [xup_ne _ _ hlx]; exact hl
    rw [e185_55, e185_56]
    refine ⟨by rw [xfld_of hl']; rfl, ?_⟩
    rw [e185_59, xput_of hl']
    have := hR x 10 hx0 (by decide) (by omega)
    have er : rcell 10 n g = .inl (5, 10, .inr (.inr (.inr (.inr fun _ => none)))) := by
      unfold rcell
      have : (fun i => if i < n then some (g i) else none) = fun _ : Nat => (none : Option Nat) := by funext i; rw [if_neg (by omega)]
      rw [this]
    rw [er] at this
    show xW _ _ _ _
    rw [e186_10]
    exact this
  · refine Or.inr ?_
    have hN1 := caps_le N hN
    have e00 : Int32.ofNat N = nI N := rfl
    have es : nI (n + 1) - nI N = 1 := by rw [hn, pk_sub (by omega)]; have : n + 1 - n = 1 := by omega
                                          rw [this]; rfl
    rw [xalen_q hr, xo_some, e185_5, xk_i, e185_6, e185_7, e00]
    refine ⟨fun _ => ?_, fun q => absurd (show nI 0 < nI N from nI_lt (by omega) (by omega)) q⟩
    rw [e185_20, e185_21, e185_22, e185_23, es, e185_24, e185_25, e185_26, caps_sh N hN, e185_27]
    refine ⟨⟨by decide, trivial⟩, ?_⟩
    rw [sp_newLen hN (by omega)]
    show xW _ _ _ _
    rw [e185_30, xk_i, e185_31, e185_32, e185_33, f1, xo_some, e185_36, e185_37]
    have hM := caps_up N hN (by omega)
    have hM1 := caps_le _ hM
    refine ⟨⟨show (1 + 0 : Nat) ≤ 8 from by decide, trivial, by decide, by decide⟩, sp_copyOf hr hn.symm (M := N + N / 2) (by omega) (by omega) hob (fun x hx0 => ?_)⟩
    have hlx := xis_ne hl hx0
    have hl' : xup ah x (rcell (N + N / 2) n g) l = some (.inr (1, [.int mc, .ref e, .int (nI n)])) := by rw [xup_ne _ _ hlx]; exact hl
    show xW _ _ _ _
    rw [e185_40, e185_41]
    refine ⟨by rw [xfld_of hl']; rfl, ?_⟩
    rw [e185_44, xput_of hl']
    have := hR x (N + N / 2) hx0 hM (by omega)
    show xW _ _ _ _
    rw [e186_10]
    exact this
/-- the last place is written: what the row becomes -/
theorem rc_add {M : Nat} {v : Nat} (f : Nat → Option Nat) (hf : f = fun i => if i < n then some (g i) else none) : va_up f n (some v) = fun i => if i < n + 1 then some (if i = n then v else g i) else none := by
  subst hf
  funext i
  unfold va_up
  by_cases h : i = n
  · subst h
    rw [if_pos rfl, if_pos (Nat.lt_succ_self _), if_pos rfl]
  · rw [if_neg h, if_neg h]
    show (if i < n then some (g i) else none) = _
    by_cases h2 : i < n
    · rw [if_pos h2, if_pos (by omega)]
    · rw [if_neg h2, if_neg (by omega)]
theorem sp_add0 {v : Nat} (h : LL κ ah l mc e n N g) (h5 : n < 512) (hv : xob xoks ah v) (hvl : v ≠ l) (hob : ∀ i, i < n → xob xoks ah (g i))
    (hR : ∀ e' M ah', (e' = e ∧ ¬ N = 0 ∨ ah e' = none) → M ∈ caps → n + 1 ≤ M → ah' l = some (lcell mc e' (n + 1)) → ah' e' = some (rcell M (n + 1) (fun i => if i = n then v else g i)) → l ≠ e' → (∀ a, a ≠ l → a ≠ e' → ah' a = ah a) → R (.inl none) ah') : xm κ 180 [.ref l, .ref v, .ref e, .int (nI n)] ah R := by
  have hl := h.1
  have ea : nI n + 1 = nI (n + 1) := (nI_succ n).symm
  have fin : ∀ (e' M : Nat) (ah1 : xH) (k' n' : Nat), (e' = e ∧ ¬ N = 0 ∨ ah e' = none) → M ∈ caps → n + 1 ≤ M → ah1 l = some (lcell mc e' n) → ah1 e' = some (rcell M n g) → l ≠ e' → xob xoks ah1 v → (∀ a, a ≠ l → a ≠ e' → ah1 a = ah a) →
      xW (T180 κ) (xm κ) R (11, [some (.ref l), some (.ref v), some (.ref e'), some (.int (nI n))], [], ah1, k', n') := by
    intro e' M ah1 k' n' q1 q2 q3 q4 q5 q6 q7 q8
    have hM := caps_le M q2
    rw [e180_11, e180_12, e180_13, e180_14, xaq_of q5, xo_some, nI_cl (by omega)]
    refine ⟨(xin_nI (by omega) (by omega)).mpr trivial, q7, ?_⟩
    have hl' : xup ah1 e' (.inl (5, M, .inr (.inr (.inr (.inr (va_up (fun i => if i < n then some (g i) else none) n (some v))))))) l = some (.inr (1, [.int mc, .ref e', .int (nI n)])) := by rw [xup_ne _ _ q6]; exact q4
    rw [e180_15, e180_16, e180_17, e180_18, ea, e180_19]
    refine ⟨by rw [xfld_of hl']; rfl, ?_⟩
    rw [e180_22, xput_of hl']
    refine hR e' M _ q1 q2 q3 (xup_self _ _ _) ?_ q6 (fun a h1 h2 => ?_)
    · rw [xup_ne _ _ (fun q => q6 q.symm), xup_self, rc_add (M := M) _ rfl]
      rfl
    · rw [xup_ne _ _ h1, xup_ne _ _ h2]
      exact q8 a h1 h2
  rw [en180, e180_0, e180_1, e180_2]
  have grow : N = n → xW (T180 κ) (xm κ) R (6, [some (.ref l), some (.ref v), some (.ref e), some (.int (nI n))], [], ah, 1, 600) := by
    intro hNn
    rw [e180_6, e180_7]
    refine ⟨⟨by decide, ⟨_, hl⟩, by decide, by decide⟩, sp_grow h hNn h5 hob (fun x M hx0 hM hM2 => ?_)⟩
    have hlx := xis_ne hl hx0
    show xW _ _ _ _
    rw [e180_10, xk_r]
    exact fin x M _ _ _ (Or.inr hx0) hM hM2 (xup_self _ _ _) (by rw [xup_ne _ _ (fun q => hlx q.symm), xup_self]) hlx (by
      obtain ⟨ci, fs, c1, c2⟩ := hv
      have hvx : v ≠ x := xis_ne c2 hx0
      exact ⟨ci, fs, c1, by rw [xup_ne _ _ hvl, xup_ne _ _ hvx]; exact c2⟩) (fun a h1 h2 => by rw [xup_ne _ _ h1, xup_ne _ _ h2])
  obtain ⟨-, ⟨hN0, hn0, he⟩ | ⟨hr, hnN, hN⟩⟩ := id h
  · refine Or.inl ⟨he, ?_⟩
    rw [e180_3]
    refine ⟨fun q => absurd ?_ q, fun _ => grow (by omega)⟩
    rw [hn0]
    rfl
  · refine Or.inr ?_
    have hN1 := caps_le N hN
    have e00 : Int32.ofNat N = nI N := rfl
    rw [xalen_q hr, xo_some, e180_3, e00]
    refine ⟨fun q => ?_, fun q => grow ?_⟩
    · have : ¬ n = N := fun q' => q (by rw [q'])
      exact fin e N ah _ _ (Or.inl ⟨rfl, by omega⟩) hN (by omega) hl hr (h.ne (by omega)) hv (fun _ _ _ => rfl)
    · have := (nI_eq (a := n) (b := N) (by omega) (by omega)).mp q
      omega
end
