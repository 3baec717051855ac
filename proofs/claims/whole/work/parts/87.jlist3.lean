/-! lists of the JDK: add and remove -/
section
variable {κ : Nat → Nat} {R : xR → xH → Prop} {ah : xH} {l e n N : Nat} {mc : Int32} {g : Nat → Nat}
theorem xob_l {v : Nat} (hv : xob xoks ah v) (hl : ah l = some (lcell mc e n)) : v ≠ l := by
  obtain ⟨ci, fs, h1, h2⟩ := hv
  intro q
  subst q
  rw [hl] at h2
  have : ci = 1 := by
    have := congrArg (fun o : Option xO => match o with | some (.inr (c, _)) => c | _ => 0) h2
    exact this.symm
  subst this
  exact absurd h1 (by decide)
theorem sp_ladd {v : Nat} (h : LL κ ah l mc e n N g) (h5 : n < 512) (hv : xob xoks ah v) (hob : ∀ i, i < n → xob xoks ah (g i))
    (hR : ∀ e' M ah', (e' = e ∧ ¬ N = 0 ∨ ah e' = none) → M ∈ caps → n + 1 ≤ M → ah' l = some (lcell (mc + 1) e' (n + 1)) → ah' e' = some (rcell M (n + 1) (fun i => if i = n then v else g i)) → l ≠ e' → (∀ a, a ≠ l → a ≠ e' → ah' a = ah a) → R (.inl (some (.int 1))) ah') : xm κ 181 [.ref l, .ref v] ah R := by
  have hl := h.1
  have hl1 : xup ah l (lcell (mc + 1) e n) l = some (lcell (mc + 1) e n) := xup_self _ _ _
  have f0 : xfld ah l 1 0 = some (.int mc) := xfld_of hl
  have e1 : xput ah l 0 (.int (mc + 1)) = xup ah l (lcell (mc + 1) e n) := xput_of hl
  have f1 : xfld (xup ah l (lcell (mc + 1) e n)) l 1 1 = some (.ref e) := xfld_of hl1
  have f2 : xfld (xup ah l (lcell (mc + 1) e n)) l 1 2 = some (.int (nI n)) := xfld_of hl1
  have hx : xis (xup ah l (lcell (mc + 1) e n)) l 1 = True := xis_of hl1
  have hob1 : ∀ v, xob xoks ah v → xob xoks (xup ah l (lcell (mc + 1) e n)) v := fun v hv => xob_up hv (fun q => xob_l hv hl q.symm)
  have hL1 : LL κ (xup ah l (lcell (mc + 1) e n)) l (mc + 1) e n N g := by
    refine ⟨hl1, h.2.elim Or.inl (fun q => Or.inr ⟨?_, q.2⟩)⟩
    have hN := caps_le N q.2.2
    rw [xup_ne _ _ (fun q => h.ne (by omega) q.symm)]
    exact q.1
  rw [en181]
  simp (disch := omega) only [e181_0, e181_0n, e181_1, e181_1i, e181_2, e181_5, e181_6, e181_7, e181_10, e181_10n, e181_11, e181_11n, e181_12, e181_12n, e181_13, e181_16, e181_16n, e181_17, xKv, xK0, xKx, xKHv, xKH0, xk_none, xk_i, xk_f, xk_l, xk_r, xk_n, xc_i, xc_f, xc_l, xc_d, xc_r, xc_n, xo_some, List.map_cons, List.map_nil, List.sum_cons, List.sum_nil, xnzn, xpn0, xpn1, xpnb, xpnn, i10, i00, true_imp_iff, false_imp_iff, not_true_eq_false, not_false_eq_true, true_and, and_true, implies_true, xnz0, xnz1, xnzb, xfz0, xfz1, xfzb, Option.isSome_some, if_true, if_false, xbF, xbT, and_false, false_and, Nat.zero_le, Nat.reduceEqDiff, Nat.reduceLeDiff, Nat.reduceAdd, Nat.reduceSub, xiT, xiF, f0, e1, f1, f2]
  rw [e181_20]
  refine ⟨⟨by decide, ⟨_, hl1⟩, by decide, by decide⟩, sp_add0 hL1 h5 (hob1 v hv) (xob_l hv hl) (fun i hi => hob1 _ (hob i hi)) (fun e' M ah' q1 q2 q3 q4 q5 q6 q7 => ?_)⟩
  show xW _ _ _ _
  simp (disch := omega) only [e181_23, e181_24, xKv, xK0, xKx, xKHv, xKH0, xk_none, xk_i, xk_f, xk_l, xk_r, xk_n, xc_i, xc_f, xc_l, xc_d, xc_r, xc_n, xo_some, List.map_cons, List.map_nil, List.sum_cons, List.sum_nil, xnzn, xpn0, xpn1, xpnb, xpnn, i10, i00, true_imp_iff, false_imp_iff, not_true_eq_false, not_false_eq_true, true_and, and_true, implies_true, xnz0, xnz1, xnzb, xfz0, xfz1, xfzb, Option.isSome_some, if_true, if_false, xbF, xbT, and_false, false_and, Nat.zero_le, Nat.reduceEqDiff, Nat.reduceLeDiff, Nat.reduceAdd, Nat.reduceSub, xiT, xiF]
  refine hR e' M ah' (q1.imp id (fun q => ?_)) q2 q3 q4 q5 q6 (fun a h1 h2 => ?_)
  · rw [xup_ne _ _ (fun q' => q6 q'.symm)] at q
    exact q
  · rw [q7 a h1 h2, xup_ne _ _ h1]
theorem sp_lrem (h : LL κ ah l mc e n N g) (hn : ¬ n = 0)
    (hR : ∀ ah', ah' l = some (lcell (mc + 1) e (n - 1)) → ah' e = some (rcell N (n - 1) g) → l ≠ e → ¬ N = 0 → (∀ a, a ≠ l → a ≠ e → ah' a = ah a) → R (.inl (some (.ref (g (n - 1))))) ah') : xm κ 189 [.ref l, .int (nI (n - 1))] ah R := by
  have hl := h.1
  obtain ⟨-, ⟨-, q, -⟩ | ⟨hr, hnN, hN⟩⟩ := id h
  · exact absurd q hn
  · have hN1 := caps_le N hN
    have hne := h.ne (by omega)
    have f0 : xfld ah l 1 0 = some (.int mc) := xfld_of hl
    have f1 : xfld ah l 1 1 = some (.ref e) := xfld_of hl
    have f2 : xfld ah l 1 2 = some (.int (nI n)) := xfld_of hl
    have hx : xis ah l 1 := ⟨_, hl⟩
    have q := xaq_of hr
    have e1 : xput ah l 0 (.int (mc + 1)) = xup ah l (lcell (mc + 1) e n) := xput_of hl
    have hl1 : xup ah l (lcell (mc + 1) e n) l = some (lcell (mc + 1) e n) := xup_self _ _ _
    have f2' : xfld (xup ah l (lcell (mc + 1) e n)) l 1 2 = some (.int (nI n)) := xfld_of hl1
    have e2 : xput (xup ah l (lcell (mc + 1) e n)) l 2 (.int (nI (n - 1))) = xup ah l (lcell (mc + 1) e (n - 1)) := by rw [xput_of hl1, xup_xup]; rfl
    have hr2 : xup ah l (lcell (mc + 1) e (n - 1)) e = some (rcell N n g) := by rw [xup_ne _ _ (fun q => hne q.symm)]; exact hr
    have q2 := xaq_of hr2
    have en : nI n - 1 = nI (n - 1) := lsu1 (by omega)
    have ef : va_up (fun i => if i < n then some (g i) else none) (n - 1) none = fun i => if i < n - 1 then some (g i) else none := by
      funext i
      unfold va_up
      by_cases h1 : i = n - 1
      · rw [if_pos h1, if_neg (by omega)]
      · rw [if_neg h1]
        show (if i < n then some (g i) else none) = _
        by_cases h2 : i < n
        · rw [if_pos h2, if_pos (by omega)]
        · rw [if_neg h2, if_neg (by omega)]
    have hlt : n - 1 < n := by omega
    have hx1 : xis ah l 1 = True := eq_true hx
    simp (disch := omega) only [en189, e189_0, e189_1, e189_1n, e189_2, e189_5, e189_8, e189_8i, e189_8n, e189_9, e189_9n, e189_10, e189_13, e189_13n, e189_14, e189_14n, e189_15, e189_16, e189_17, e189_17n, e189_18, e189_18n, e189_19, e189_19n, e189_20, e189_21, e189_24, e189_24n, e189_25, e189_25n, xKv, xK0, xKx, xKHv, xKH0, xk_none, xk_i, xk_f, xk_l, xk_r, xk_n, xc_i, xc_f, xc_l, xc_d, xc_r, xc_n, xo_some, List.map_cons, List.map_nil, List.sum_cons, List.sum_nil, xnzn, xpn0, xpn1, xpnb, xpnn, i10, i00, true_imp_iff, false_imp_iff, not_true_eq_false, not_false_eq_true, true_and, and_true, implies_true, xnz0, xnz1, xnzb, xfz0, xfz1, xfzb, Option.isSome_some, if_true, if_false, xbF, xbT, and_false, false_and, Nat.zero_le, Nat.reduceEqDiff, Nat.reduceLeDiff, Nat.reduceAdd, Nat.reduceSub, xiT, xiF, f2, f1, sp_ck, q, xin_nI, nI_cl, if_pos hlt, va_rf_s, hx1, en183, e183_0, e183_0n, e183_1, e183_1i, e183_2, e183_5, e183_6, e183_7, e183_10, e183_10n, e183_11, e183_14, e183_15, e183_16, e183_16i, e183_17, e183_18, e183_19, e183_22, e183_22n, e183_23, e183_24, e183_25, e183_26, e183_26n, e183_27, e183_28, e183_29, e183_30, e183_31, e183_34, e183_34n, e183_35, e183_35n, e183_36, e183_37, e183_37i, e183_38, e183_41, e183_42, e183_42n, e183_43, f0, e1, f2', en, xle, leT, e2, q2, ef]
    refine hR _ ?_ (xup_self _ _ _) hne (by omega) (fun a h1 h2 => ?_)
    · rw [xup_ne _ _ hne, xup_self]
    · rw [xup_ne _ _ h2, xup_ne _ _ h1]
end
