/-! lists of the JDK: what adds and takes away -/
def LL (κ : Nat → Nat) (ah : xH) (l : Nat) (mc : Int32) (e n N : Nat) (g : Nat → Nat) : Prop :=
  ah l = some (lcell mc e n) ∧ ((N = 0 ∧ n = 0 ∧ e = κ 9) ∨ (ah e = some (rcell N n g) ∧ n ≤ N ∧ N ∈ caps))
section
variable {κ : Nat → Nat} {R : xR → xH → Prop} {ah : xH} {l e n N : Nat} {mc : Int32} {g : Nat → Nat}
theorem LL.ne (h : LL κ ah l mc e n N g) (hN : ¬ N = 0) : l ≠ e := by
  obtain ⟨h1, h2 | ⟨h2, -⟩⟩ := h
  · exact absurd h2.1 hN
  · intro q
    subst q
    rw [h1] at h2
    cases h2
theorem sp_newLen (hN : N ∈ caps) (h5 : N < 163) : xm κ 122 [.int (nI N), .int 1, .int (nI (N / 2))] ah R ↔ R (.inl (some (.int (nI (N + N / 2))))) ah := by
  have h1 := caps_le N hN
  have em : (if (1 : Int32) < nI (N / 2) then nI (N / 2) else 1) = nI (N / 2) := if_pos (show nI 1 < nI (N / 2) from nI_lt (by omega) (by omega))
  have ea : nI N + nI (N / 2) = nI (N + N / 2) := nI_add _ _
  have e0 : (nI (N + N / 2) ≤ 0) = False := by rw [lle0 (by omega)]; exact eq_false (by omega)
  have e1 : ((2147483639 : Int32) < nI (N + N / 2)) = False := eq_false (show ¬ nI 2147483639 < nI (N + N / 2) from nI_nlt (by omega) (by omega))
  rw [en122]
  simp (disch := omega) only [en122, e122_0, e122_1, e122_2, e122_3, e122_6, e122_7, e122_8, e122_9, e122_10, e122_13, e122_14, e122_16, e122_19, e122_20, e122_21, e122_22, e122_26, xKv, xK0, xKx, xKHv, xKH0, xk_none, xk_i, xk_f, xk_l, xk_r, xk_n, xc_i, xc_f, xc_l, xc_d, xc_r, xc_n, xo_some, List.map_cons, List.map_nil, List.sum_cons, List.sum_nil, xnzn, xpn0, xpn1, xpnb, xpnn, i10, i00, true_imp_iff, false_imp_iff, not_true_eq_false, not_false_eq_true, true_and, and_true, implies_true, xnz0, xnz1, xnzb, xfz0, xfz1, xfzb, Option.isSome_some, if_true, if_false, xbF, xbT, and_false, false_and, Nat.zero_le, Nat.reduceEqDiff, Nat.reduceLeDiff, Nat.reduceAdd, Nat.reduceSub, xiT, xiF, em, ea, e0, e1]
theorem sp_grow (h : LL κ ah l mc e n N g) (hn : N = n) (h5 : n < 163) (hob : ∀ i, i < n → xob xoks ah (g i))
    (hR : ∀ x M, ah x = none → M ∈ caps → n + 1 ≤ M → R (.inl (some (.ref x))) (xup (xup ah x (rcell M n g)) l (lcell mc x n))) : xm κ 129 [.ref l] ah R := by
  obtain ⟨hl, hc⟩ := h
  have f1 : xfld ah l 1 1 = some (.ref e) := xfld_of hl
  have f2 : xfld ah l 1 2 = some (.int (nI n)) := xfld_of hl
  have hx : xis ah l 1 := ⟨_, hl⟩
  have ea : nI n + 1 = nI (n + 1) := (nI_succ n).symm
  rw [en129, e129_0, e129_1, e129_2, f2, xo_some, e129_5, e129_6, ea, e129_7]
  refine ⟨⟨by decide, hx, by decide, by decide⟩, ?_⟩
  rw [en128, e128_0, e128_1, f1, xo_some, e128_4]
  rcases hc with ⟨hN0, hn0, he⟩ | ⟨hr, hnN, hN⟩
  · refine Or.inl ⟨he, ?_⟩
    have e00 : Int32.ofNat 0 = 0 := rfl
    rw [e128_5, xk_i, e128_6, e128_7]
    refine ⟨fun q => absurd q (by decide), fun _ => ?_⟩
    rw [e128_10, e128_11, f1, xo_some, e128_14, e128_17]
    refine ⟨fun _ => ?_, fun q => absurd he q⟩
    have em : (if (10 : Int32) < nI (n + 1) then nI (n + 1) else 10) = nI 10 := if_neg (show ¬ nI 10 < nI (n + 1) from nI_nlt (by omega) (by omega))
    rw [e128_45, e128_46, e128_48, e128_49]
    refine ⟨show (1 + 0 : Nat) ≤ 8 from by decide, ?_⟩
    rw [em, e128_52, nI_cl (by omega)]
    refine ⟨⟨nI_pos (by omega), by omega⟩, by decide, by omega, fun x hx0 => ?_⟩
    have hlx := xis_ne hl hx0
    have hl' : xup ah x (.inl (5, 10, .inr (.inr (.inr (.inr fun _ => none))))) l = some (.inr (1, [.int mc, .ref e, .int (nI n)])) := by rw [xup_ne _ _ hlx]; exact hl
    rw [e128_55, e128_56]
    refine ⟨by rw [xfld_of hl']; rfl, ?_⟩
    rw [e128_59, xput_of hl']
    have := hR x 10 hx0 (by decide) (by omega)
    have er : rcell 10 n g = .inl (5, 10, .inr (.inr (.inr (.inr fun _ => none)))) := by
      unfold rcell
      have : (fun i => if i < n then some (g i) else none) = fun _ : Nat => (none : Option Nat) := by funext i; rw [if_neg (by omega)]
      rw [this]
    rw [er] at this
    show xW _ _ _ _
    rw [e129_10]
    exact this
  · refine Or.inr ?_
    have hN1 := caps_le N hN
    have e00 : Int32.ofNat N = nI N := rfl
    have es : nI (n + 1) - nI N = 1 := by rw [hn, pk_sub (by omega)]; have : n + 1 - n = 1 := by omega
                                          rw [this]; rfl
    rw [xalen_q hr, xo_some, e128_5, xk_i, e128_6, e128_7, e00]
    refine ⟨fun _ => ?_, fun q => absurd (show nI 0 < nI N from nI_lt (by omega) (by omega)) q⟩
    rw [e128_20, e128_21, e128_22, e128_23, es, e128_24, e128_25, e128_26, caps_sh N hN, e128_27]
    refine ⟨⟨by decide, trivial⟩, ?_⟩
    rw [sp_newLen hN (by omega)]
    show xW _ _ _ _
    rw [e128_30, xk_i, e128_31, e128_32, e128_33, f1, xo_some, e128_36, e128_37]
    have hM := caps_up N hN (by omega)
    have hM1 := caps_le _ hM
    refine ⟨⟨show (1 + 0 : Nat) ≤ 8 from by decide, trivial, by decide, by decide⟩, sp_copyOf hr hn.symm (M := N + N / 2) (by omega) (by omega) hob (fun x hx0 => ?_)⟩
    have hlx := xis_ne hl hx0
    have hl' : xup ah x (rcell (N + N / 2) n g) l = some (.inr (1, [.int mc, .ref e, .int (nI n)])) := by rw [xup_ne _ _ hlx]; exact hl
    show xW _ _ _ _
    rw [e128_40, e128_41]
    refine ⟨by rw [xfld_of hl']; rfl, ?_⟩
    rw [e128_44, xput_of hl']
    have := hR x (N + N / 2) hx0 hM (by omega)
    show xW _ _ _ _
    rw [e129_10]
    exact this
theorem rc_add {M : Nat} {v : Nat} (f : Nat → Option Nat) (hf : f = fun i => if i < n then some (g i) else none) : va_up f n (some v) = fun i => if i < n + 1 then some (if i = n then v else g i) else none := by
  subst hf
  funext i
  unfold va_up
  by_cases h : i = n
  · subst h
    rw [if_pos rfl, if_pos (Nat.lt_succ_self _), if_pos rfl]
  · rw [if_neg h, if_neg h]
    show (if i < n then some (g i) else none) = _
    by_cases h2 : i < n
    · rw [if_pos h2, if_pos (by omega)]
    · rw [if_neg h2, if_neg (by omega)]
theorem sp_add0 {v : Nat} (h : LL κ ah l mc e n N g) (h5 : n < 163) (hv : xob xoks ah v) (hvl : v ≠ l) (hob : ∀ i, i < n → xob xoks ah (g i))
    (hR : ∀ e' M ah', (e' = e ∧ ¬ N = 0 ∨ ah e' = none) → M ∈ caps → n + 1 ≤ M → ah' l = some (lcell mc e' (n + 1)) → ah' e' = some (rcell M (n + 1) (fun i => if i = n then v else g i)) → l ≠ e' → (∀ a, a ≠ l → a ≠ e' → ah' a = ah a) → R (.inl none) ah') : xm κ 123 [.ref l, .ref v, .ref e, .int (nI n)] ah R := by
  have hl := h.1
  have ea : nI n + 1 = nI (n + 1) := (nI_succ n).symm
  have fin : ∀ (e' M : Nat) (ah1 : xH) (k' n' : Nat), (e' = e ∧ ¬ N = 0 ∨ ah e' = none) → M ∈ caps → n + 1 ≤ M → ah1 l = some (lcell mc e' n) → ah1 e' = some (rcell M n g) → l ≠ e' → xob xoks ah1 v → (∀ a, a ≠ l → a ≠ e' → ah1 a = ah a) →
      xW (T123 κ) (xm κ) R (11, [some (.ref l), some (.ref v), some (.ref e'), some (.int (nI n))], [], ah1, k', n') := by
    intro e' M ah1 k' n' q1 q2 q3 q4 q5 q6 q7 q8
    have hM := caps_le M q2
    rw [e123_11, e123_12, e123_13, e123_14, xaq_of q5, xo_some, nI_cl (by omega)]
    refine ⟨(xin_nI (by omega) (by omega)).mpr trivial, q7, ?_⟩
    have hl' : xup ah1 e' (.inl (5, M, .inr (.inr (.inr (.inr (va_up (fun i => if i < n then some (g i) else none) n (some v))))))) l = some (.inr (1, [.int mc, .ref e', .int (nI n)])) := by rw [xup_ne _ _ q6]; exact q4
    rw [e123_15, e123_16, e123_17, e123_18, ea, e123_19]
    refine ⟨by rw [xfld_of hl']; rfl, ?_⟩
    rw [e123_22, xput_of hl']
    refine hR e' M _ q1 q2 q3 (xup_self _ _ _) ?_ q6 (fun a h1 h2 => ?_)
    · rw [xup_ne _ _ (fun q => q6 q.symm), xup_self, rc_add (M := M) _ rfl]
      rfl
    · rw [xup_ne _ _ h1, xup_ne _ _ h2]
      exact q8 a h1 h2
  rw [en123, e123_0, e123_1, e123_2]
  have grow : N = n → xW (T123 κ) (xm κ) R (6, [some (.ref l), some (.ref v), some (.ref e), some (.int (nI n))], [], ah, 1, 170) := by
    intro hNn
    rw [e123_6, e123_7]
    refine ⟨⟨by decide, ⟨_, hl⟩, by decide, by decide⟩, sp_grow h hNn h5 hob (fun x M hx0 hM hM2 => ?_)⟩
    have hlx := xis_ne hl hx0
    show xW _ _ _ _
    rw [e123_10, xk_r]
    exact fin x M _ _ _ (Or.inr hx0) hM hM2 (xup_self _ _ _) (by rw [xup_ne _ _ (fun q => hlx q.symm), xup_self]) hlx (by
      obtain ⟨ci, fs, c1, c2⟩ := hv
      have hvx : v ≠ x := xis_ne c2 hx0
      exact ⟨ci, fs, c1, by rw [xup_ne _ _ hvl, xup_ne _ _ hvx]; exact c2⟩) (fun a h1 h2 => by rw [xup_ne _ _ h1, xup_ne _ _ h2])
  obtain ⟨-, ⟨hN0, hn0, he⟩ | ⟨hr, hnN, hN⟩⟩ := id h
  · refine Or.inl ⟨he, ?_⟩
    rw [e123_3]
    refine ⟨fun q => absurd ?_ q, fun _ => grow (by omega)⟩
    rw [hn0]
    rfl
  · refine Or.inr ?_
    have hN1 := caps_le N hN
    have e00 : Int32.ofNat N = nI N := rfl
    rw [xalen_q hr, xo_some, e123_3, e00]
    refine ⟨fun q => ?_, fun q => grow ?_⟩
    · have : ¬ n = N := fun q' => q (by rw [q'])
      exact fin e N ah _ _ (Or.inl ⟨rfl, by omega⟩) hN (by omega) hl hr (h.ne (by omega)) hv (fun _ _ _ => rfl)
    · have := (nI_eq (a := n) (b := N) (by omega) (by omega)).mp q
      omega
end

