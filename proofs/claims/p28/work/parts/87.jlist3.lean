/-! lists of the JDK: add and remove -/
section
variable {κ : Nat → Nat} {R : xR → xH → Prop} {ah : xH} {l e n N : Nat} {mc : Int32} {g : Nat → Nat}
theorem xob_l {v : Nat} (hv : xob xoks ah v) (hl : ah l = some (lcell mc e n)) : v ≠ l := by
  obtain ⟨ci, fs, h1, h2⟩ := hv
  intro q
  subst q
  rw [hl] at h2
  have : ci = 1 := by
    have := congrArg (fun o : Option xO => match o with | some (.inr (c, _)) => c | _ => 0) h2
    exact this.symm
  subst this
  exact absurd h1 (by decide)
theorem sp_ladd {v : Nat} (h : LL κ ah l mc e n N g) (h5 : n < 163) (hv : xob xoks ah v) (hob : ∀ i, i < n → xob xoks ah (g i))
    (hR : ∀ e' M ah', (e' = e ∧ ¬ N = 0 ∨ ah e' = none) → M ∈ caps → n + 1 ≤ M → ah' l = some (lcell (mc + 1) e' (n + 1)) → ah' e' = some (rcell M (n + 1) (fun i => if i = n then v else g i)) → l ≠ e' → (∀ a, a ≠ l → a ≠ e' → ah' a = ah a) → R (.inl (some (.int 1))) ah') : xm κ 124 [.ref l, .ref v] ah R := by
  have hl := h.1
  have hl1 : xup ah l (lcell (mc + 1) e n) l = some (lcell (mc + 1) e n) := xup_self _ _ _
  have f0 : xfld ah l 1 0 = some (.int mc) := xfld_of hl
  have e1 : xput ah l 0 (.int (mc + 1)) = xup ah l (lcell (mc + 1) e n) := xput_of hl
  have f1 : xfld (xup ah l (lcell (mc + 1) e n)) l 1 1 = some (.ref e) := xfld_of hl1
  have f2 : xfld (xup ah l (lcell (mc + 1) e n)) l 1 2 = some (.int (nI n)) := xfld_of hl1
  have hx : xis (xup ah l (lcell (mc + 1) e n)) l 1 = True := xis_of hl1
  have hob1 : ∀ v, xob xoks ah v → xob xoks (xup ah l (lcell (mc + 1) e n)) v := fun v hv => xob_up hv (fun q => xob_l hv hl q.symm)
  have hL1 : LL κ (xup ah l (lcell (mc + 1) e n)) l (mc + 1) e n N g := by
    refine ⟨hl1, h.2.elim Or.inl (fun q => Or.inr ⟨?_, q.2⟩)⟩
    have hN := caps_le N q.2.2
    rw [xup_ne _ _ (fun q => h.ne (by omega) q.symm)]
    exact q.1
  rw [en124]
  simp (disch := omega) only [e124_0, e124_0n, e124_1, e124_1i, e124_2, e124_5, e124_6, e124_7, e124_10, e124_10n, e124_11, e124_11n, e124_12, e124_12n, e124_13, e124_16, e124_16n, e124_17, xKv, xK0, xKx, xKHv, xKH0, xk_none, xk_i, xk_f, xk_l, xk_r, xk_n, xc_i, xc_f, xc_l, xc_d, xc_r, xc_n, xo_some, List.map_cons, List.map_nil, List.sum_cons, List.sum_nil, xnzn, xpn0, xpn1, xpnb, xpnn, i10, i00, true_imp_iff, false_imp_iff, not_true_eq_false, not_false_eq_true, true_and, and_true, implies_true, xnz0, xnz1, xnzb, xfz0, xfz1, xfzb, Option.isSome_some, if_true, if_false, xbF, xbT, and_false, false_and, Nat.zero_le, Nat.reduceEqDiff, Nat.reduceLeDiff, Nat.reduceAdd, Nat.reduceSub, xiT, xiF, f0, e1, f1, f2]
  rw [e124_20]
  refine ⟨⟨by decide, ⟨_, hl1⟩, by decide, by decide⟩, sp_add0 hL1 h5 (hob1 v hv) (xob_l hv hl) (fun i hi => hob1 _ (hob i hi)) (fun e' M ah' q1 q2 q3 q4 q5 q6 q7 => ?_)⟩
  show xW _ _ _ _
  simp (disch := omega) only [e124_23, e124_24, xKv, xK0, xKx, xKHv, xKH0, xk_none, xk_i, xk_f, xk_l, xk_r, xk_n, xc_i, xc_f, xc_l, xc_d, xc_r, xc_n, xo_some, List.map_cons, List.map_nil, List.sum_cons, List.sum_nil, xnzn, xpn0, xpn1, xpnb, xpnn, i10, i00, true_imp_iff, false_imp_iff, not_true_eq_false, not_false_eq_true, true_and, and_true, implies_true, xnz0, xnz1, xnzb, xfz0, xfz1, xfzb, Option.isSome_some, if_true, if_false, xbF, xbT, and_false, false_and, Nat.zero_le, Nat.reduceEqDiff, Nat.reduceLeDiff, Nat.reduceAdd, Nat.reduceSub, xiT, xiF]
  refine hR e' M ah' (q1.imp id (fun q => ?_)) q2 q3 q4 q5 q6 (fun a h1 h2 => ?_)
  · rw [xup_ne _ _ (fun q' => q6 q'.symm)] at q
    exact q
  · rw [q7 a h1 h2, xup_ne _ _ h1]
theorem sp_lrem (h : LL κ ah l mc e n N g) (hn : ¬ n = 0)
    (hR : ∀ ah', ah' l = some (lcell (mc + 1) e (n - 1)) → ah' e = some (rcell N (n - 1) g) → l ≠ e → ¬ N = 0 → (∀ a, a ≠ l → a ≠ e → ah' a = ah a) → R (.inl (some (.ref (g (n - 1))))) ah') : xm κ 132 [.ref l, .int (nI (n - 1))] ah R := by
  have hl := h.1
  obtain ⟨-, ⟨-, q, -⟩ | ⟨hr, hnN, hN⟩⟩ := id h
  · exact absurd q hn
  · have hN1 := caps_le N hN
    have hne := h.ne (by omega)
    have f0 : xfld ah l 1 0 = some (.int mc) := xfld_of hl
    have f1 : xfld ah l 1 1 = some (.ref e) := xfld_of hl
    have f2 : xfld ah l 1 2 = some (.int (nI n)) := xfld_of hl
    have hx : xis ah l 1 := ⟨_, hl⟩
    have q := xaq_of hr
    have e1 : xput ah l 0 (.int (mc + 1)) = xup ah l (lcell (mc + 1) e n) := xput_of hl
    have hl1 : xup ah l (lcell (mc + 1) e n) l = some (lcell (mc + 1) e n) := xup_self _ _ _
    have f2' : xfld (xup ah l (lcell (mc + 1) e n)) l 1 2 = some (.int (nI n)) := xfld_of hl1
    have e2 : xput (xup ah l (lcell (mc + 1) e n)) l 2 (.int (nI (n - 1))) = xup ah l (lcell (mc + 1) e (n - 1)) := by rw [xput_of hl1, xup_xup]; rfl
    have hr2 : xup ah l (lcell (mc + 1) e (n - 1)) e = some (rcell N n g) := by rw [xup_ne _ _ (fun q => hne q.symm)]; exact hr
    have q2 := xaq_of hr2
    have en : nI n - 1 = nI (n - 1) := lsu1 (by omega)
    have ef : va_up (fun i => if i < n then some (g i) else none) (n - 1) none = fun i => if i < n - 1 then some (g i) else none := by
      funext i
      unfold va_up
      by_cases h1 : i = n - 1
      · rw [if_pos h1, if_neg (by omega)]
      · rw [if_neg h1]
        show (if i < n then some (g i) else none) = _
        by_cases h2 : i < n
        · rw [if_pos h2, if_pos (by omega)]
        · rw [if_neg h2, if_neg (by omega)]
    have hlt : n - 1 < n := by omega
    have hx1 : xis ah l 1 = True := eq_true hx
    simp (disch := omega) only [en132, e132_0, e132_1, e132_1n, e132_2, e132_5, e132_8, e132_8i, e132_8n, e132_9, e132_9n, e132_10, e132_13, e132_13n, e132_14, e132_14n, e132_15, e132_16, e132_17, e132_17n, e132_18, e132_18n, e132_19, e132_19n, e132_20, e132_21, e132_24, e132_24n, e132_25, e132_25n, xKv, xK0, xKx, xKHv, xKH0, xk_none, xk_i, xk_f, xk_l, xk_r, xk_n, xc_i, xc_f, xc_l, xc_d, xc_r, xc_n, xo_some, List.map_cons, List.map_nil, List.sum_cons, List.sum_nil, xnzn, xpn0, xpn1, xpnb, xpnn, i10, i00, true_imp_iff, false_imp_iff, not_true_eq_false, not_false_eq_true, true_and, and_true, implies_true, xnz0, xnz1, xnzb, xfz0, xfz1, xfzb, Option.isSome_some, if_true, if_false, xbF, xbT, and_false, false_and, Nat.zero_le, Nat.reduceEqDiff, Nat.reduceLeDiff, Nat.reduceAdd, Nat.reduceSub, xiT, xiF, f2, f1, sp_ck, q, xin_nI, nI_cl, if_pos hlt, va_rf_s, hx1, en126, e126_0, e126_0n, e126_1, e126_1i, e126_2, e126_5, e126_6, e126_7, e126_10, e126_10n, e126_11, e126_14, e126_15, e126_16, e126_16i, e126_17, e126_18, e126_19, e126_22, e126_22n, e126_23, e126_24, e126_25, e126_26, e126_26n, e126_27, e126_28, e126_29, e126_30, e126_31, e126_34, e126_34n, e126_35, e126_35n, e126_36, e126_37, e126_37i, e126_38, e126_41, e126_42, e126_42n, e126_43, f0, e1, f2', en, xle, leT, e2, q2, ef]
    refine hR _ ?_ (xup_self _ _ _) hne (by omega) (fun a h1 h2 => ?_)
    · rw [xup_ne _ _ hne, xup_self]
    · rw [xup_ne _ _ h2, xup_ne _ _ h1]
end

