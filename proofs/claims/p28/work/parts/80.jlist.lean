/-! lists of the JDK -/
def lcell (mc : Int32) (e n : Nat) : xO := .inr (1, [.int mc, .ref e, .int (nI n)])
def rcell (N n : Nat) (g : Nat → Nat) : xO := .inl (5, N, .inr (.inr (.inr (.inr (fun i => if i < n then some (g i) else none)))))
abbrev caps : List Nat := [10, 15, 22, 33, 49, 73, 109, 163]
theorem caps_le : ∀ N ∈ caps, 10 ≤ N ∧ N ≤ 163 := by decide
theorem caps_up : ∀ N ∈ caps, N < 163 → N + N / 2 ∈ caps := by decide
theorem caps_sh : ∀ N ∈ caps, nI N >>> ((1 : Int32) &&& 31) = nI (N / 2) := by decide +kernel
theorem xfld_of {ah : xH} {a ci kf : Nat} {fs : List Value} (h : ah a = some (.inr (ci, fs))) : xfld ah a ci kf = fs[kf]? := by
  unfold xfld; rw [h]; exact if_pos rfl
theorem xput_of {ah : xH} {a ci kf : Nat} {fs : List Value} {v : Value} (h : ah a = some (.inr (ci, fs))) : xput ah a kf v = xup ah a (.inr (ci, fs.set kf v)) := by
  unfold xput; rw [h]
theorem xis_of {ah : xH} {a ci : Nat} {fs : List Value} (h : ah a = some (.inr (ci, fs))) : xis ah a ci = True := eq_true ⟨fs, h⟩
theorem xup_xup {ah : xH} {a : Nat} {o p : xO} : xup (xup ah a o) a p = xup ah a p := by
  funext b
  unfold xup
  split <;> rfl
theorem xup_cm {ah : xH} {a b : Nat} {o p : xO} (h : a ≠ b) : xup (xup ah a o) b p = xup (xup ah b p) a o := by
  funext c
  by_cases h1 : c = a
  · subst h1; rw [xup_self, xup_ne _ _ h, xup_self]
  · by_cases h2 : c = b
    · subst h2; rw [xup_self, xup_ne _ _ h1, xup_self]
    · rw [xup_ne _ _ h2, xup_ne _ _ h1, xup_ne _ _ h1, xup_ne _ _ h2]
theorem xaq_of {ah : xH} {a N : Nat} {f : Nat → Option Nat} (h : ah a = some (.inl (5, N, .inr (.inr (.inr (.inr f)))))) : xaq ah a = some (N, f) := by
  unfold xaq; rw [h]; rfl
theorem xalen_q {ah : xH} {a N : Nat} {f : Nat → Option Nat} (h : ah a = some (.inl (5, N, .inr (.inr (.inr (.inr f)))))) : xalen ah a = some N := by
  unfold xalen; rw [h]; rfl
theorem va_rf_s {x : Nat} : va_rf (some x) = .ref x := rfl
theorem xob_up {ah : xH} {v x : Nat} {o : xO} (h : xob xoks ah v) (hx : x ≠ v) : xob xoks (xup ah x o) v := by
  obtain ⟨ci, fs, h1, h2⟩ := h
  exact ⟨ci, fs, h1, by rw [xup_ne _ _ (fun e => hx e.symm)]; exact h2⟩
theorem xob_ne {ah : xH} {v x : Nat} (h : xob xoks ah v) (hx : ah x = none) : x ≠ v := by
  obtain ⟨ci, fs, h1, h2⟩ := h
  intro e
  subst e
  rw [hx] at h2
  cases h2
theorem xis_ne {ah : xH} {v x : Nat} {o : xO} (h : ah v = some o) (hx : ah x = none) : v ≠ x := by
  intro e
  subst e
  rw [hx] at h
  cases h
section
variable {κ : Nat → Nat} {R : xR → xH → Prop} {ah : xH} {l e n N : Nat} {mc : Int32} {g : Nat → Nat}
theorem sp_ck {j n : Nat} (hj : j < n) (hn : n < 2 ^ 31) : xm κ 96 [.int (nI j), .int (nI n)] ah R ↔ R (.inl (some (.int (nI j)))) ah := by
  simp (disch := omega) only [en96, e96_0, e96_1, e96_2, e96_3, e96_6, en99, e99_0, e99_1, e99_4, e99_5, e99_6, e99_9, e99_9n, e99_10, e99_11, e99_16, e99_17, en99n, xKv, xK0, xKx, xKHv, xKH0, xk_none, xk_i, xk_f, xk_l, xk_r, xk_n, xc_i, xc_f, xc_l, xc_d, xc_r, xc_n, xo_some, List.map_cons, List.map_nil, List.sum_cons, List.sum_nil, xnzn, xpn0, xpn1, xpnb, xpnn, i10, i00, true_imp_iff, false_imp_iff, not_true_eq_false, not_false_eq_true, true_and, and_true, implies_true, xnz0, xnz1, xnzb, xfz0, xfz1, xfzb, Option.isSome_some, if_true, if_false, xbF, xbT, and_false, false_and, Nat.zero_le, Nat.reduceEqDiff, Nat.reduceLeDiff, Nat.reduceAdd, Nat.reduceSub, xiT, xiF, pk_mul, nI_add, Nat.add_sub_cancel, lad0, leq0, lle0, lge0, llt0, lgt0, leq1, lle1, lge1, llt1, lgt1, lad1, lsu1, leq2, lle2, lge2, llt2, lgt2, lmu2, lmv2, lad2, lsu2, ldi2, leq3, lle3, lge3, llt3, lgt3, lmu3, lmv3, lad3, lsu3, ldi3, leq4, lle4, lge4, llt4, lgt4, lmu4, lmv4, lad4, lsu4, ldi4, leq5, lle5, lge5, llt5, lgt5, lmu5, lmv5, lad5, lsu5, ldi5, leq6, lle6, lge6, llt6, lgt6, lmu6, lmv6, lad6, lsu6, ldi6, leq8, lle8, lge8, llt8, lgt8, lmu8, lmv8, lad8, lsu8, ldi8, leq9, lle9, lge9, llt9, lgt9, lmu9, lmv9, lad9, lsu9, ldi9, leq10, lle10, lge10, llt10, lgt10, lmu10, lmv10, lad10, lsu10, ldi10, leq12, lle12, lge12, llt12, lgt12, lmu12, lmv12, lad12, lsu12, ldi12, leq20, lle20, lge20, llt20, lgt20, lmu20, lmv20, lad20, lsu20, ldi20, leq25, lle25, lge25, llt25, lgt25, lmu25, lmv25, lad25, lsu25, ldi25, leq30, lle30, lge30, llt30, lgt30, lmu30, lmv30, lad30, lsu30, ldi30, leq48, lle48, lge48, llt48, lgt48, lmu48, lmv48, lad48, lsu48, ldi48, leq50, lle50, lge50, llt50, lgt50, lmu50, lmv50, lad50, lsu50, ldi50, leq99, lle99, lge99, llt99, lgt99, lmu99, lmv99, lad99, lsu99, ldi99, leq100, lle100, lge100, llt100, lgt100, lmu100, lmv100, lad100, lsu100, ldi100, leq2000, lle2000, lge2000, llt2000, lgt2000, lmu2000, lmv2000, lad2000, lsu2000, ldi2000, xlt, ltT, ltF]
theorem sp_lsize (h : ah l = some (lcell mc e n)) : xm κ 133 [.ref l] ah R ↔ R (.inl (some (.int (nI n)))) ah :=
  sp_size (xfld_of h) ⟨_, rfl⟩
theorem sp_lempty (h : ah l = some (lcell mc e n)) (hn : n < 2 ^ 31) : xm κ 131 [.ref l] ah R ↔ R (.inl (some (.int (xb (n = 0))))) ah := by
  have f2 : xfld ah l 1 2 = some (.int (nI n)) := xfld_of h
  by_cases hz : n = 0
  · have hz' : (nI n = 0) = True := by rw [leq0 hn]; exact eq_true hz
    rw [xb_t hz]
    simp (disch := omega) only [en131, e131_0, e131_0n, e131_1, e131_4, e131_7, e131_8, e131_11, e131_12, xKv, xK0, xKx, xKHv, xKH0, xk_none, xk_i, xk_f, xk_l, xk_r, xk_n, xc_i, xc_f, xc_l, xc_d, xc_r, xc_n, xo_some, List.map_cons, List.map_nil, List.sum_cons, List.sum_nil, xnzn, xpn0, xpn1, xpnb, xpnn, i10, i00, true_imp_iff, false_imp_iff, not_true_eq_false, not_false_eq_true, true_and, and_true, implies_true, xnz0, xnz1, xnzb, xfz0, xfz1, xfzb, Option.isSome_some, if_true, if_false, xbF, xbT, and_false, false_and, Nat.zero_le, Nat.reduceEqDiff, Nat.reduceLeDiff, Nat.reduceAdd, Nat.reduceSub, xiT, xiF, f2, hz']
  · have hz' : (nI n = 0) = False := by rw [leq0 hn]; exact eq_false hz
    rw [xb_f hz]
    simp (disch := omega) only [en131, e131_0, e131_0n, e131_1, e131_4, e131_7, e131_8, e131_11, e131_12, xKv, xK0, xKx, xKHv, xKH0, xk_none, xk_i, xk_f, xk_l, xk_r, xk_n, xc_i, xc_f, xc_l, xc_d, xc_r, xc_n, xo_some, List.map_cons, List.map_nil, List.sum_cons, List.sum_nil, xnzn, xpn0, xpn1, xpnb, xpnn, i10, i00, true_imp_iff, false_imp_iff, not_true_eq_false, not_false_eq_true, true_and, and_true, implies_true, xnz0, xnz1, xnzb, xfz0, xfz1, xfzb, Option.isSome_some, if_true, if_false, xbF, xbT, and_false, false_and, Nat.zero_le, Nat.reduceEqDiff, Nat.reduceLeDiff, Nat.reduceAdd, Nat.reduceSub, xiT, xiF, f2, hz']
theorem sp_get (h : ah l = some (lcell mc e n)) (hr : ah e = some (rcell N n g)) (hn : n ≤ N) (hN : N < 2 ^ 31) {j : Nat} (hj : j < n) : xm κ 127 [.ref l, .int (nI j)] ah R ↔ R (.inl (some (.ref (g j)))) ah := by
  have f1 : xfld ah l 1 1 = some (.ref e) := xfld_of h
  have f2 : xfld ah l 1 2 = some (.int (nI n)) := xfld_of h
  have q := xaq_of hr
  have hi : xis ah l 1 = True := xis_of h
  simp (disch := omega) only [en127, e127_0, e127_1, e127_1n, e127_2, e127_5, e127_8, e127_8i, e127_8n, e127_9, e127_9n, e127_10, e127_11, e127_14, e127_14n, en125, e125_0, e125_0n, e125_1, e125_4, e125_5, e125_6, e125_6n, xKv, xK0, xKx, xKHv, xKH0, xk_none, xk_i, xk_f, xk_l, xk_r, xk_n, xc_i, xc_f, xc_l, xc_d, xc_r, xc_n, xo_some, List.map_cons, List.map_nil, List.sum_cons, List.sum_nil, xnzn, xpn0, xpn1, xpnb, xpnn, i10, i00, true_imp_iff, false_imp_iff, not_true_eq_false, not_false_eq_true, true_and, and_true, implies_true, xnz0, xnz1, xnzb, xfz0, xfz1, xfzb, Option.isSome_some, if_true, if_false, xbF, xbT, and_false, false_and, Nat.zero_le, Nat.reduceEqDiff, Nat.reduceLeDiff, Nat.reduceAdd, Nat.reduceSub, xiT, xiF, f1, f2, hi, sp_ck, q, xin_nI, nI_cl, if_pos hj, va_rf_s]
theorem sp_copyOf (hr : ah e = some (rcell N n g)) (hn : n = N) {M : Nat} (hM : N ≤ M) (hM2 : M ≤ 170) (hob : ∀ i, i < n → xob xoks ah (g i))
    (hR : ∀ x, ah x = none → R (.inl (some (.ref x))) (xup ah x (rcell M n g))) : xm κ 119 [.ref e, .int (nI M)] ah R := by
  have q := xaq_of hr
  have hex : (∃ A, xaq ah e = some A) = True := eq_true ⟨_, q⟩
  rw [en119, e119_0, e119_1, e119_2, e119_3]
  refine ⟨show (1 + (1 + 0) : Nat) ≤ 8 from by decide, ⟨_, q⟩, ?_⟩
  rw [e119_6]
  refine ⟨⟨by decide, trivial, by decide, by decide⟩, ?_⟩
  rw [en120, e120_0, e120_1, e120_3]
  refine ⟨fun hne => absurd rfl hne, fun _ => ?_⟩
  rw [e120_6, e120_7, nI_cl (by omega)]
  refine ⟨⟨nI_pos (by omega), by omega⟩, by decide, by omega, fun x hx => ?_⟩
  have hxe : e ≠ x := xis_ne hr hx
  have q1 : xaq (xup ah x (.inl (5, M, .inr (.inr (.inr (.inr fun _ => none)))))) e = some (N, fun i => if i < n then some (g i) else none) := xaq_of (by rw [xup_ne _ _ hxe]; exact hr)
  have ql : xalen (xup ah x (.inl (5, M, .inr (.inr (.inr (.inr fun _ => none)))))) e = some N := xalen_q (f := fun i => if i < n then some (g i) else none) (by rw [xup_ne _ _ hxe]; exact hr)
  have q2 : xaq (xup ah x (.inl (5, M, .inr (.inr (.inr (.inr fun _ => none)))))) x = some (M, fun _ => none) := xaq_of (xup_self _ _ _)
  have emin : (if nI M < nI N then nI M else nI N) = nI N := if_neg (nI_nlt hM (by omega))
  rw [e120_10, e120_24, e120_25, e120_26, e120_27, e120_28, e120_29, e120_30, ql, xo_some, e120_31, e120_32]
  refine ⟨show (1 + (1 + (1 + (1 + 0))) : Nat) ≤ 8 from by decide, ?_⟩
  have e0 : Int32.ofNat N = nI N := rfl
  rw [e0, emin, e120_35, q1, xo_some, q2, xo_some, nI_cl (by omega)]
  refine ⟨⟨by decide, by decide, nI_pos (by omega)⟩, ⟨by simp, by simpa using hM⟩, fun i hi y hy => ?_, ?_⟩
  · have hi' : (0 : Int32).toNatClampNeg + i = i := by rw [show (0 : Int32).toNatClampNeg = 0 from rfl, Nat.zero_add]
    rw [hi'] at hy
    dsimp only at hy
    rw [if_pos (by omega)] at hy
    cases hy
    exact xob_up (hob i (by omega)) (xob_ne (hob i (by omega)) hx)
  · rw [e120_38, e120_39]
    have ef : (fun i => if i < n then some (g i) else none) = va_cpy (fun i => if i < n then some (g i) else none) (fun _ => none) (0 : Int32).toNatClampNeg (0 : Int32).toNatClampNeg N := by
      funext i
      rw [show (0 : Int32).toNatClampNeg = 0 from rfl]
      by_cases hi : i < N
      · rw [pk_cpy_in (Nat.zero_le _) (by omega)]
        have : 0 + (i - 0) = i := by omega
        rw [this]
      · rw [pk_cpy_out (Or.inr (by omega)), if_neg (by omega)]
    have := hR x hx
    unfold rcell at this
    rw [xup_xup, ← ef]
    show xW _ _ _ _
    rw [e119_9]
    exact this
end

