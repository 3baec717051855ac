/-! the edges, and the whole call -/
def hasE (σ : xS) (w s : Nat) : Prop := (1 ≤ s ∧ edg σ w s (s - 1) (s - 1)) ∨ (s + 1 < σ 4 w ∧ edg σ w s (s + 1) s)
noncomputable def mkv (σ : xS) (w s : Nat) : Nat := xi (¬ σ 14 (up σ (12 * w + s)) = 0 ∨ hasE σ w s) 1 0
noncomputable def mrk (w : Nat) (σ : xS) (s : Nat) : xS := su σ 14 (up σ (12 * w + s)) (mkv σ w s)
noncomputable def mcn (w : Nat) : Nat → Nat → xS → Nat
  | 0, _, _ => 0
  | n + 1, s, σ => mkv σ w s + mcn w n (s + 1) (mrk w σ s)
theorem mkv_le {σ : xS} {w s : Nat} : mkv σ w s ≤ 1 := by
  unfold mkv
  by_cases h : ¬ σ 14 (up σ (12 * w + s)) = 0 ∨ hasE σ w s
  · rw [xi_t h]; exact Nat.le_refl 1
  · rw [xi_f h]; exact Nat.zero_le 1
theorem mcn_le (w : Nat) : ∀ (n s : Nat) (σ : xS), mcn w n s σ ≤ n := by
  intro n
  induction n with
  | zero => intro s σ; exact Nat.le_refl 0
  | succ n ih =>
    intro s σ
    have h1 := ih (s + 1) (mrk w σ s)
    have h2 := mkv_le (σ := σ) (w := w) (s := s)
    show mkv σ w s + mcn w n (s + 1) (mrk w σ s) ≤ n + 1
    omega
theorem mrk_o {σ : xS} {w s c i : Nat} (hc : c ≠ 14) : mrk w σ s c i = σ c i := by
  unfold mrk
  exact su_ne (fun q => hc q.1)
theorem MI_14 {σ : xS} (hI : MI σ) {u v : Nat} (hv : v ≤ 1) : MI (su σ 14 u v) := by
  have ho : ∀ c i, c ≠ 14 → su σ 14 u v c i = σ c i := fun c i hc => su_ne (fun q => hc q.1)
  obtain ⟨i0, i1, i2, i3, i4, i5, i6, i7, i8, i9, i10, i11, i12, i13, i14, i15, i16, i17⟩ := hI
  unfold MI
  simp (disch := decide) only [ho]
  refine ⟨i0, i1, i2, i3, i4, i5, i6, fun c hc => ?_, i8, i9, i10, i11, i12, i13, i14, i15, i16, i17⟩
  have := i7 c hc
  unfold su
  simp only [true_and]
  split <;> omega
section
variable {κ : Nat → Nat} {R : xR → xH → Prop} {ad : Nat → Nat} {m : Nat} {ah0 ah : xH} {σ : xS} {th : Nat}
theorem xin_m1 {n : Nat} : ¬ xin (nI 0 - 1) n := fun q => absurd q.1 (by decide)
theorem sp_eL (h : MR ad m ah0 ah σ th) (hI : MI σ) {w s : Nat} (hw : w < σ 3 0) (hs : s < σ 4 w) (h8 : ¬ σ 8 (12 * w + s) = 0) : xm κ 110 [.ref m, .int (nI w), .int (nI s), .int (nI s - 1), .int (nI s - 1)] ah R ↔ R (.inl (some (.int (xb (1 ≤ s ∧ edg σ w s (s - 1) (s - 1)))))) ah := by
  have hW := hI.W
  have h4 := hI.w4 (w := w) (by omega)
  by_cases h0 : s = 0
  · subst h0
    rw [sp_hasEdgeX h hI hw xin_m1, xb_f (fun q => absurd q.1 (by decide))]
  · rw [lsu1 (by omega), sp_hasEdge h hI hw hs (by omega) (by omega) h8]
    rw [xb_congr (p := edg σ w s (s - 1) (s - 1)) (q := 1 ≤ s ∧ edg σ w s (s - 1) (s - 1)) ⟨fun q => ⟨by omega, q⟩, fun q => q.2⟩]
theorem sp_eL' (h : MR ad m ah0 ah σ th) (hI : MI σ) {w s : Nat} (hw : w < σ 3 0) (hs : s < σ 4 w) (h8 : ¬ σ 8 (12 * w + s) = 0) (h1 : 1 ≤ s) : xm κ 110 [.ref m, .int (nI w), .int (nI s), .int (nI (s - 1)), .int (nI (s - 1))] ah R ↔ R (.inl (some (.int (xb (edg σ w s (s - 1) (s - 1)))))) ah := by
  have hW := hI.W
  have h4 := hI.w4 (w := w) (by omega)
  exact sp_hasEdge h hI hw hs (by omega) (by omega) h8
theorem sp_eR (h : MR ad m ah0 ah σ th) (hI : MI σ) {w s : Nat} (hw : w < σ 3 0) (hs : s < σ 4 w) (h8 : ¬ σ 8 (12 * w + s) = 0) : xm κ 110 [.ref m, .int (nI w), .int (nI s), .int (nI (s + 1)), .int (nI s)] ah R ↔ R (.inl (some (.int (xb (s + 1 < σ 4 w ∧ edg σ w s (s + 1) s))))) ah := by
  have hW := hI.W
  have h4 := hI.w4 (w := w) (by omega)
  by_cases h0 : s + 1 < σ 4 w
  · rw [sp_hasEdge h hI hw hs (by omega) (by omega) h8]
    rw [xb_congr (p := edg σ w s (s + 1) s) (q := s + 1 < σ 4 w ∧ edg σ w s (s + 1) s) ⟨fun q => ⟨by omega, q⟩, fun q => q.2⟩]
  · rw [sp_hasEdgeX h hI hw (fun q => h0 ((xin_j (by omega) (by omega)).mp q)), xb_f (fun q => h0 q.1)]
theorem lp_coat3 {w t : Nat} {f0 p0 k0 : Value} {l6 l7 : Option Value} {b8 : Int32} : ∀ (n s c : Nat) (l2 l3 : Option Value) (σ : xS) (ah : xH), MR ad m ah0 ah σ th → MI σ → w < σ 3 0 → t < σ 4 w → (∀ i, s ≤ i → i ≤ t → ¬ σ 8 (12 * w + i) = 0) → s + n = t + 1 → c ≤ s →
    (∀ ah' l2 l3, MR ad m ah0 ah' (fo (mrk w) n s σ) th → MI (fo (mrk w) n s σ) → xW (T112 κ) (xm κ) R (292, [some (.ref m), some (.int (nI w)), some f0, some (.int (nI t)), some p0, some k0, l6, l7, some (.int b8), some (.int (nI (c + mcn w n s σ))), some (.int (nI (t + 1))), l2, l3], [], ah', 0, 0)) →
    xW (T112 κ) (xm κ) R (179, [some (.ref m), some (.int (nI w)), some f0, some (.int (nI t)), some p0, some k0, l6, l7, some (.int b8), some (.int (nI c)), some (.int (nI s)), l2, l3], [], ah, 0, 0) := by
  intro n
  induction n with
  | zero =>
    intro s c l2 l3 σ ah h hI hw hs4 h8 hs hc hX
    have hs' : s = t + 1 := by omega
    have hW := hI.W
    have h4 := hI.w4 (w := w) (by omega)
    subst hs'
    rw [e112_179]
    simp (disch := omega) only [e112_181, e112_182, e112_185, e112_185n, e112_186, e112_187, e112_189, e112_191, e112_192, e112_193, e112_195, e112_196, e112_197, e112_200, e112_203, e112_203n, e112_204, e112_205, e112_207, e112_209, e112_210, e112_211, e112_213, e112_216, e112_219, e112_220, e112_223, e112_224, e112_226, e112_226n, e112_227, e112_229, e112_230, e112_231, e112_233, e112_234, e112_237, e112_239, e112_239n, e112_240, e112_243, e112_245, e112_245n, e112_246, e112_249, e112_251, e112_252, e112_255, e112_257, e112_260, e112_261, e112_264, e112_265, e112_266, e112_268, e112_268n, e112_269, e112_272, e112_274, e112_275, e112_278, e112_279, e112_282, e112_283, e112_284, e112_286, e112_289, xKv, xK0, xKx, xKHv, xKH0, xk_none, xk_i, xk_f, xk_l, xk_r, xk_n, xc_i, xc_f, xc_l, xc_d, xc_r, xc_n, xo_some, List.map_cons, List.map_nil, List.sum_cons, List.sum_nil, xnzn, xpn0, xpn1, xpnb, xpnn, i10, i00, true_imp_iff, false_imp_iff, not_true_eq_false, not_false_eq_true, true_and, and_true, implies_true, xnz0, xnz1, xnzb, xfz0, xfz1, xfzb, Option.isSome_some, if_true, if_false, xbF, xbT, and_false, false_and, Nat.zero_le, Nat.reduceEqDiff, Nat.reduceLeDiff, Nat.reduceAdd, Nat.reduceSub, xiT, xiF, pk_mul, nI_add, Nat.add_sub_cancel, lad0, leq0, lle0, lge0, llt0, lgt0, leq1, lle1, lge1, llt1, lgt1, lad1, lsu1, leq2, lle2, lge2, llt2, lgt2, lmu2, lmv2, lad2, lsu2, ldi2, leq3, lle3, lge3, llt3, lgt3, lmu3, lmv3, lad3, lsu3, ldi3, leq4, lle4, lge4, llt4, lgt4, lmu4, lmv4, lad4, lsu4, ldi4, leq5, lle5, lge5, llt5, lgt5, lmu5, lmv5, lad5, lsu5, ldi5, leq6, lle6, lge6, llt6, lgt6, lmu6, lmv6, lad6, lsu6, ldi6, leq8, lle8, lge8, llt8, lgt8, lmu8, lmv8, lad8, lsu8, ldi8, leq9, lle9, lge9, llt9, lgt9, lmu9, lmv9, lad9, lsu9, ldi9, leq10, lle10, lge10, llt10, lgt10, lmu10, lmv10, lad10, lsu10, ldi10, leq12, lle12, lge12, llt12, lgt12, lmu12, lmv12, lad12, lsu12, ldi12, leq20, lle20, lge20, llt20, lgt20, lmu20, lmv20, lad20, lsu20, ldi20, leq25, lle25, lge25, llt25, lgt25, lmu25, lmv25, lad25, lsu25, ldi25, leq30, lle30, lge30, llt30, lgt30, lmu30, lmv30, lad30, lsu30, ldi30, leq48, lle48, lge48, llt48, lgt48, lmu48, lmv48, lad48, lsu48, ldi48, leq50, lle50, lge50, llt50, lgt50, lmu50, lmv50, lad50, lsu50, ldi50, leq99, lle99, lge99, llt99, lgt99, lmu99, lmv99, lad99, lsu99, ldi99, leq100, lle100, lge100, llt100, lgt100, lmu100, lmv100, lad100, lsu100, ldi100, leq2000, lle2000, lge2000, llt2000, lgt2000, lmu2000, lmv2000, lad2000, lsu2000, ldi2000, xlt, Nat.lt_succ_self]
    exact hX ah l2 l3 h hI
  | succ n ih =>
    intro s c l2 l3 σ ah h hI hw hs4 h8 hs hc hX
    have hW := hI.W
    have h4 := hI.w4 (w := w) (by omega)
    have hlt : ¬ t < s := by omega
    have hs8 := h8 s (Nat.le_refl _) (by omega)
    have q8 := hI.w8 (a := 12 * w + s) (by omega)
    have hu := up_lt (a := 12 * w + s) hs8 q8 (by omega)
    obtain ⟨f14, ha14, hf14⟩ := h.r14
    have e14 := hf14 _ hu
    have q14 := hI.c hu
    have fin : ∀ (v : Nat) (x : Int32) (l2 l3 : Option Value), mkv σ w s = v → x = nI v → xW (T112 κ) (xm κ) R (179, [some (.ref m), some (.int (nI w)), some f0, some (.int (nI t)), some p0, some k0, l6, l7, some (.int b8), some (.int (nI (c + v))), some (.int (nI (s + 1))), l2, l3], [], xup ah (ad 14) (.inl (1, 720, .inl (upd f14 (up σ (12 * w + s)) x))), 0, 0) := by
      intro v x l2 l3 hv hx
      have g := h.w14 (up σ (12 * w + s)) v ha14 hu hx
      have hv1 : v ≤ 1 := by rw [← hv]; exact mkv_le
      have e : su σ 14 (up σ (12 * w + s)) v = mrk w σ s := by unfold mrk; rw [hv]
      refine ih (s + 1) (c + v) l2 l3 (su σ 14 (up σ (12 * w + s)) v) _ g (MI_14 hI hv1) ?_ ?_ ?_ (by omega) (by omega) ?_
      · rw [su_ne (by omega)]; exact hw
      · rw [su_ne (by omega)]; exact hs4
      · intro i hi hi2
        rw [su_ne (by omega)]
        exact h8 i (by omega) hi2
      · intro ah' l2 l3 h1 h2
        rw [e] at h1 h2 ⊢
        have := hX ah' l2 l3 h1 h2
        have e2 : c + v + mcn w n (s + 1) (mrk w σ s) = c + mcn w (n + 1) s σ := by
          show c + v + mcn w n (s + 1) (mrk w σ s) = c + (mkv σ w s + mcn w n (s + 1) (mrk w σ s))
          omega
        rw [e2]
        exact this
    rw [e112_179]
    by_cases q0 : σ 14 (up σ (12 * w + s)) = 0
    · by_cases hL : 1 ≤ s ∧ edg σ w s (s - 1) (s - 1)
      · skip
        have g := h.w14 (up σ (12 * w + s)) 1 ha14 hu (x := 1) rfl
        have hv : mkv σ w s = 1 := by unfold mkv hasE; exact xi_t (Or.inr (Or.inl hL))
        simp (disch := omega) only [e112_181, e112_182, e112_185, e112_185n, e112_186, e112_187, e112_189, e112_191, e112_192, e112_193, e112_195, e112_196, e112_197, e112_200, e112_203, e112_203n, e112_204, e112_205, e112_207, e112_209, e112_210, e112_211, e112_213, e112_216, e112_219, e112_220, e112_223, e112_224, e112_226, e112_226n, e112_227, e112_229, e112_230, e112_231, e112_233, e112_234, e112_237, e112_239, e112_239n, e112_240, e112_243, e112_245, e112_245n, e112_246, e112_249, e112_251, e112_252, e112_255, e112_257, e112_260, e112_261, e112_264, e112_265, e112_266, e112_268, e112_268n, e112_269, e112_272, e112_274, e112_275, e112_278, e112_279, e112_282, e112_283, e112_284, e112_286, e112_289, xKv, xK0, xKx, xKHv, xKH0, xk_none, xk_i, xk_f, xk_l, xk_r, xk_n, xc_i, xc_f, xc_l, xc_d, xc_r, xc_n, xo_some, List.map_cons, List.map_nil, List.sum_cons, List.sum_nil, xnzn, xpn0, xpn1, xpnb, xpnn, i10, i00, true_imp_iff, false_imp_iff, not_true_eq_false, not_false_eq_true, true_and, and_true, implies_true, xnz0, xnz1, xnzb, xfz0, xfz1, xfzb, Option.isSome_some, if_true, if_false, xbF, xbT, and_false, false_and, Nat.zero_le, Nat.reduceEqDiff, Nat.reduceLeDiff, Nat.reduceAdd, Nat.reduceSub, xiT, xiF, pk_mul, nI_add, Nat.add_sub_cancel, lad0, leq0, lle0, lge0, llt0, lgt0, leq1, lle1, lge1, llt1, lgt1, lad1, lsu1, leq2, lle2, lge2, llt2, lgt2, lmu2, lmv2, lad2, lsu2, ldi2, leq3, lle3, lge3, llt3, lgt3, lmu3, lmv3, lad3, lsu3, ldi3, leq4, lle4, lge4, llt4, lgt4, lmu4, lmv4, lad4, lsu4, ldi4, leq5, lle5, lge5, llt5, lgt5, lmu5, lmv5, lad5, lsu5, ldi5, leq6, lle6, lge6, llt6, lgt6, lmu6, lmv6, lad6, lsu6, ldi6, leq8, lle8, lge8, llt8, lgt8, lmu8, lmv8, lad8, lsu8, ldi8, leq9, lle9, lge9, llt9, lgt9, lmu9, lmv9, lad9, lsu9, ldi9, leq10, lle10, lge10, llt10, lgt10, lmu10, lmv10, lad10, lsu10, ldi10, leq12, lle12, lge12, llt12, lgt12, lmu12, lmv12, lad12, lsu12, ldi12, leq20, lle20, lge20, llt20, lgt20, lmu20, lmv20, lad20, lsu20, ldi20, leq25, lle25, lge25, llt25, lgt25, lmu25, lmv25, lad25, lsu25, ldi25, leq30, lle30, lge30, llt30, lgt30, lmu30, lmv30, lad30, lsu30, ldi30, leq48, lle48, lge48, llt48, lgt48, lmu48, lmv48, lad48, lsu48, ldi48, leq50, lle50, lge50, llt50, lgt50, lmu50, lmv50, lad50, lsu50, ldi50, leq99, lle99, lge99, llt99, lgt99, lmu99, lmv99, lad99, lsu99, ldi99, leq100, lle100, lge100, llt100, lgt100, lmu100, lmv100, lad100, lsu100, ldi100, leq2000, lle2000, lge2000, llt2000, lgt2000, lmu2000, lmv2000, lad2000, lsu2000, ldi2000, xlt, hlt, h.is, sp_eL h hI hw, sp_eR h hI hw, sp_upper1 h hI, h.a 14, ha14, e14, g.a 14, xin_nI, nI_cl, pk_us, xai_up, hL.2, sp_eL' h hI hw, q0]
        exact fin 1 1 _ _ hv rfl
      · by_cases hRt : s + 1 < σ 4 w ∧ edg σ w s (s + 1) s
        · skip
          have g := h.w14 (up σ (12 * w + s)) 1 ha14 hu (x := 1) rfl
          have hv : mkv σ w s = 1 := by unfold mkv hasE; exact xi_t (Or.inr (Or.inr hRt))
          simp (disch := omega) only [e112_181, e112_182, e112_185, e112_185n, e112_186, e112_187, e112_189, e112_191, e112_192, e112_193, e112_195, e112_196, e112_197, e112_200, e112_203, e112_203n, e112_204, e112_205, e112_207, e112_209, e112_210, e112_211, e112_213, e112_216, e112_219, e112_220, e112_223, e112_224, e112_226, e112_226n, e112_227, e112_229, e112_230, e112_231, e112_233, e112_234, e112_237, e112_239, e112_239n, e112_240, e112_243, e112_245, e112_245n, e112_246, e112_249, e112_251, e112_252, e112_255, e112_257, e112_260, e112_261, e112_264, e112_265, e112_266, e112_268, e112_268n, e112_269, e112_272, e112_274, e112_275, e112_278, e112_279, e112_282, e112_283, e112_284, e112_286, e112_289, xKv, xK0, xKx, xKHv, xKH0, xk_none, xk_i, xk_f, xk_l, xk_r, xk_n, xc_i, xc_f, xc_l, xc_d, xc_r, xc_n, xo_some, List.map_cons, List.map_nil, List.sum_cons, List.sum_nil, xnzn, xpn0, xpn1, xpnb, xpnn, i10, i00, true_imp_iff, false_imp_iff, not_true_eq_false, not_false_eq_true, true_and, and_true, implies_true, xnz0, xnz1, xnzb, xfz0, xfz1, xfzb, Option.isSome_some, if_true, if_false, xbF, xbT, and_false, false_and, Nat.zero_le, Nat.reduceEqDiff, Nat.reduceLeDiff, Nat.reduceAdd, Nat.reduceSub, xiT, xiF, pk_mul, nI_add, Nat.add_sub_cancel, lad0, leq0, lle0, lge0, llt0, lgt0, leq1, lle1, lge1, llt1, lgt1, lad1, lsu1, leq2, lle2, lge2, llt2, lgt2, lmu2, lmv2, lad2, lsu2, ldi2, leq3, lle3, lge3, llt3, lgt3, lmu3, lmv3, lad3, lsu3, ldi3, leq4, lle4, lge4, llt4, lgt4, lmu4, lmv4, lad4, lsu4, ldi4, leq5, lle5, lge5, llt5, lgt5, lmu5, lmv5, lad5, lsu5, ldi5, leq6, lle6, lge6, llt6, lgt6, lmu6, lmv6, lad6, lsu6, ldi6, leq8, lle8, lge8, llt8, lgt8, lmu8, lmv8, lad8, lsu8, ldi8, leq9, lle9, lge9, llt9, lgt9, lmu9, lmv9, lad9, lsu9, ldi9, leq10, lle10, lge10, llt10, lgt10, lmu10, lmv10, lad10, lsu10, ldi10, leq12, lle12, lge12, llt12, lgt12, lmu12, lmv12, lad12, lsu12, ldi12, leq20, lle20, lge20, llt20, lgt20, lmu20, lmv20, lad20, lsu20, ldi20, leq25, lle25, lge25, llt25, lgt25, lmu25, lmv25, lad25, lsu25, ldi25, leq30, lle30, lge30, llt30, lgt30, lmu30, lmv30, lad30, lsu30, ldi30, leq48, lle48, lge48, llt48, lgt48, lmu48, lmv48, lad48, lsu48, ldi48, leq50, lle50, lge50, llt50, lgt50, lmu50, lmv50, lad50, lsu50, ldi50, leq99, lle99, lge99, llt99, lgt99, lmu99, lmv99, lad99, lsu99, ldi99, leq100, lle100, lge100, llt100, lgt100, lmu100, lmv100, lad100, lsu100, ldi100, leq2000, lle2000, lge2000, llt2000, lgt2000, lmu2000, lmv2000, lad2000, lsu2000, ldi2000, xlt, hlt, h.is, sp_eL h hI hw, sp_eR h hI hw, sp_upper1 h hI, h.a 14, ha14, e14, g.a 14, xin_nI, nI_cl, pk_us, xai_up, hL, sp_eL' h hI hw, hRt, q0]
          exact fin 1 1 _ _ hv rfl
        · skip
          have g := h.w14 (up σ (12 * w + s)) 0 ha14 hu (x := 0) rfl
          have hv : mkv σ w s = 0 := by unfold mkv hasE; exact xi_f (fun q => q.elim (fun q => q q0) (fun q => q.elim hL hRt))
          simp (disch := omega) only [e112_181, e112_182, e112_185, e112_185n, e112_186, e112_187, e112_189, e112_191, e112_192, e112_193, e112_195, e112_196, e112_197, e112_200, e112_203, e112_203n, e112_204, e112_205, e112_207, e112_209, e112_210, e112_211, e112_213, e112_216, e112_219, e112_220, e112_223, e112_224, e112_226, e112_226n, e112_227, e112_229, e112_230, e112_231, e112_233, e112_234, e112_237, e112_239, e112_239n, e112_240, e112_243, e112_245, e112_245n, e112_246, e112_249, e112_251, e112_252, e112_255, e112_257, e112_260, e112_261, e112_264, e112_265, e112_266, e112_268, e112_268n, e112_269, e112_272, e112_274, e112_275, e112_278, e112_279, e112_282, e112_283, e112_284, e112_286, e112_289, xKv, xK0, xKx, xKHv, xKH0, xk_none, xk_i, xk_f, xk_l, xk_r, xk_n, xc_i, xc_f, xc_l, xc_d, xc_r, xc_n, xo_some, List.map_cons, List.map_nil, List.sum_cons, List.sum_nil, xnzn, xpn0, xpn1, xpnb, xpnn, i10, i00, true_imp_iff, false_imp_iff, not_true_eq_false, not_false_eq_true, true_and, and_true, implies_true, xnz0, xnz1, xnzb, xfz0, xfz1, xfzb, Option.isSome_some, if_true, if_false, xbF, xbT, and_false, false_and, Nat.zero_le, Nat.reduceEqDiff, Nat.reduceLeDiff, Nat.reduceAdd, Nat.reduceSub, xiT, xiF, pk_mul, nI_add, Nat.add_sub_cancel, lad0, leq0, lle0, lge0, llt0, lgt0, leq1, lle1, lge1, llt1, lgt1, lad1, lsu1, leq2, lle2, lge2, llt2, lgt2, lmu2, lmv2, lad2, lsu2, ldi2, leq3, lle3, lge3, llt3, lgt3, lmu3, lmv3, lad3, lsu3, ldi3, leq4, lle4, lge4, llt4, lgt4, lmu4, lmv4, lad4, lsu4, ldi4, leq5, lle5, lge5, llt5, lgt5, lmu5, lmv5, lad5, lsu5, ldi5, leq6, lle6, lge6, llt6, lgt6, lmu6, lmv6, lad6, lsu6, ldi6, leq8, lle8, lge8, llt8, lgt8, lmu8, lmv8, lad8, lsu8, ldi8, leq9, lle9, lge9, llt9, lgt9, lmu9, lmv9, lad9, lsu9, ldi9, leq10, lle10, lge10, llt10, lgt10, lmu10, lmv10, lad10, lsu10, ldi10, leq12, lle12, lge12, llt12, lgt12, lmu12, lmv12, lad12, lsu12, ldi12, leq20, lle20, lge20, llt20, lgt20, lmu20, lmv20, lad20, lsu20, ldi20, leq25, lle25, lge25, llt25, lgt25, lmu25, lmv25, lad25, lsu25, ldi25, leq30, lle30, lge30, llt30, lgt30, lmu30, lmv30, lad30, lsu30, ldi30, leq48, lle48, lge48, llt48, lgt48, lmu48, lmv48, lad48, lsu48, ldi48, leq50, lle50, lge50, llt50, lgt50, lmu50, lmv50, lad50, lsu50, ldi50, leq99, lle99, lge99, llt99, lgt99, lmu99, lmv99, lad99, lsu99, ldi99, leq100, lle100, lge100, llt100, lgt100, lmu100, lmv100, lad100, lsu100, ldi100, leq2000, lle2000, lge2000, llt2000, lgt2000, lmu2000, lmv2000, lad2000, lsu2000, ldi2000, xlt, hlt, h.is, sp_eL h hI hw, sp_eR h hI hw, sp_upper1 h hI, h.a 14, ha14, e14, g.a 14, xin_nI, nI_cl, pk_us, xai_up, hL, sp_eL' h hI hw, hRt, q0]
          exact fin 0 0 _ _ hv rfl
    · by_cases hL : 1 ≤ s ∧ edg σ w s (s - 1) (s - 1)
      · skip
        have g := h.w14 (up σ (12 * w + s)) 1 ha14 hu (x := 1) rfl
        have hv : mkv σ w s = 1 := by unfold mkv hasE; exact xi_t (Or.inl q0)
        simp (disch := omega) only [e112_181, e112_182, e112_185, e112_185n, e112_186, e112_187, e112_189, e112_191, e112_192, e112_193, e112_195, e112_196, e112_197, e112_200, e112_203, e112_203n, e112_204, e112_205, e112_207, e112_209, e112_210, e112_211, e112_213, e112_216, e112_219, e112_220, e112_223, e112_224, e112_226, e112_226n, e112_227, e112_229, e112_230, e112_231, e112_233, e112_234, e112_237, e112_239, e112_239n, e112_240, e112_243, e112_245, e112_245n, e112_246, e112_249, e112_251, e112_252, e112_255, e112_257, e112_260, e112_261, e112_264, e112_265, e112_266, e112_268, e112_268n, e112_269, e112_272, e112_274, e112_275, e112_278, e112_279, e112_282, e112_283, e112_284, e112_286, e112_289, xKv, xK0, xKx, xKHv, xKH0, xk_none, xk_i, xk_f, xk_l, xk_r, xk_n, xc_i, xc_f, xc_l, xc_d, xc_r, xc_n, xo_some, List.map_cons, List.map_nil, List.sum_cons, List.sum_nil, xnzn, xpn0, xpn1, xpnb, xpnn, i10, i00, true_imp_iff, false_imp_iff, not_true_eq_false, not_false_eq_true, true_and, and_true, implies_true, xnz0, xnz1, xnzb, xfz0, xfz1, xfzb, Option.isSome_some, if_true, if_false, xbF, xbT, and_false, false_and, Nat.zero_le, Nat.reduceEqDiff, Nat.reduceLeDiff, Nat.reduceAdd, Nat.reduceSub, xiT, xiF, pk_mul, nI_add, Nat.add_sub_cancel, lad0, leq0, lle0, lge0, llt0, lgt0, leq1, lle1, lge1, llt1, lgt1, lad1, lsu1, leq2, lle2, lge2, llt2, lgt2, lmu2, lmv2, lad2, lsu2, ldi2, leq3, lle3, lge3, llt3, lgt3, lmu3, lmv3, lad3, lsu3, ldi3, leq4, lle4, lge4, llt4, lgt4, lmu4, lmv4, lad4, lsu4, ldi4, leq5, lle5, lge5, llt5, lgt5, lmu5, lmv5, lad5, lsu5, ldi5, leq6, lle6, lge6, llt6, lgt6, lmu6, lmv6, lad6, lsu6, ldi6, leq8, lle8, lge8, llt8, lgt8, lmu8, lmv8, lad8, lsu8, ldi8, leq9, lle9, lge9, llt9, lgt9, lmu9, lmv9, lad9, lsu9, ldi9, leq10, lle10, lge10, llt10, lgt10, lmu10, lmv10, lad10, lsu10, ldi10, leq12, lle12, lge12, llt12, lgt12, lmu12, lmv12, lad12, lsu12, ldi12, leq20, lle20, lge20, llt20, lgt20, lmu20, lmv20, lad20, lsu20, ldi20, leq25, lle25, lge25, llt25, lgt25, lmu25, lmv25, lad25, lsu25, ldi25, leq30, lle30, lge30, llt30, lgt30, lmu30, lmv30, lad30, lsu30, ldi30, leq48, lle48, lge48, llt48, lgt48, lmu48, lmv48, lad48, lsu48, ldi48, leq50, lle50, lge50, llt50, lgt50, lmu50, lmv50, lad50, lsu50, ldi50, leq99, lle99, lge99, llt99, lgt99, lmu99, lmv99, lad99, lsu99, ldi99, leq100, lle100, lge100, llt100, lgt100, lmu100, lmv100, lad100, lsu100, ldi100, leq2000, lle2000, lge2000, llt2000, lgt2000, lmu2000, lmv2000, lad2000, lsu2000, ldi2000, xlt, hlt, h.is, sp_eL h hI hw, sp_eR h hI hw, sp_upper1 h hI, h.a 14, ha14, e14, g.a 14, xin_nI, nI_cl, pk_us, xai_up, hL.2, sp_eL' h hI hw, q0]
        exact fin 1 1 _ _ hv rfl
      · by_cases hRt : s + 1 < σ 4 w ∧ edg σ w s (s + 1) s
        · skip
          have g := h.w14 (up σ (12 * w + s)) 1 ha14 hu (x := 1) rfl
          have hv : mkv σ w s = 1 := by unfold mkv hasE; exact xi_t (Or.inl q0)
          simp (disch := omega) only [e112_181, e112_182, e112_185, e112_185n, e112_186, e112_187, e112_189, e112_191, e112_192, e112_193, e112_195, e112_196, e112_197, e112_200, e112_203, e112_203n, e112_204, e112_205, e112_207, e112_209, e112_210, e112_211, e112_213, e112_216, e112_219, e112_220, e112_223, e112_224, e112_226, e112_226n, e112_227, e112_229, e112_230, e112_231, e112_233, e112_234, e112_237, e112_239, e112_239n, e112_240, e112_243, e112_245, e112_245n, e112_246, e112_249, e112_251, e112_252, e112_255, e112_257, e112_260, e112_261, e112_264, e112_265, e112_266, e112_268, e112_268n, e112_269, e112_272, e112_274, e112_275, e112_278, e112_279, e112_282, e112_283, e112_284, e112_286, e112_289, xKv, xK0, xKx, xKHv, xKH0, xk_none, xk_i, xk_f, xk_l, xk_r, xk_n, xc_i, xc_f, xc_l, xc_d, xc_r, xc_n, xo_some, List.map_cons, List.map_nil, List.sum_cons, List.sum_nil, xnzn, xpn0, xpn1, xpnb, xpnn, i10, i00, true_imp_iff, false_imp_iff, not_true_eq_false, not_false_eq_true, true_and, and_true, implies_true, xnz0, xnz1, xnzb, xfz0, xfz1, xfzb, Option.isSome_some, if_true, if_false, xbF, xbT, and_false, false_and, Nat.zero_le, Nat.reduceEqDiff, Nat.reduceLeDiff, Nat.reduceAdd, Nat.reduceSub, xiT, xiF, pk_mul, nI_add, Nat.add_sub_cancel, lad0, leq0, lle0, lge0, llt0, lgt0, leq1, lle1, lge1, llt1, lgt1, lad1, lsu1, leq2, lle2, lge2, llt2, lgt2, lmu2, lmv2, lad2, lsu2, ldi2, leq3, lle3, lge3, llt3, lgt3, lmu3, lmv3, lad3, lsu3, ldi3, leq4, lle4, lge4, llt4, lgt4, lmu4, lmv4, lad4, lsu4, ldi4, leq5, lle5, lge5, llt5, lgt5, lmu5, lmv5, lad5, lsu5, ldi5, leq6, lle6, lge6, llt6, lgt6, lmu6, lmv6, lad6, lsu6, ldi6, leq8, lle8, lge8, llt8, lgt8, lmu8, lmv8, lad8, lsu8, ldi8, leq9, lle9, lge9, llt9, lgt9, lmu9, lmv9, lad9, lsu9, ldi9, leq10, lle10, lge10, llt10, lgt10, lmu10, lmv10, lad10, lsu10, ldi10, leq12, lle12, lge12, llt12, lgt12, lmu12, lmv12, lad12, lsu12, ldi12, leq20, lle20, lge20, llt20, lgt20, lmu20, lmv20, lad20, lsu20, ldi20, leq25, lle25, lge25, llt25, lgt25, lmu25, lmv25, lad25, lsu25, ldi25, leq30, lle30, lge30, llt30, lgt30, lmu30, lmv30, lad30, lsu30, ldi30, leq48, lle48, lge48, llt48, lgt48, lmu48, lmv48, lad48, lsu48, ldi48, leq50, lle50, lge50, llt50, lgt50, lmu50, lmv50, lad50, lsu50, ldi50, leq99, lle99, lge99, llt99, lgt99, lmu99, lmv99, lad99, lsu99, ldi99, leq100, lle100, lge100, llt100, lgt100, lmu100, lmv100, lad100, lsu100, ldi100, leq2000, lle2000, lge2000, llt2000, lgt2000, lmu2000, lmv2000, lad2000, lsu2000, ldi2000, xlt, hlt, h.is, sp_eL h hI hw, sp_eR h hI hw, sp_upper1 h hI, h.a 14, ha14, e14, g.a 14, xin_nI, nI_cl, pk_us, xai_up, hL, sp_eL' h hI hw, hRt, q0]
          exact fin 1 1 _ _ hv rfl
        · skip
          have g := h.w14 (up σ (12 * w + s)) 1 ha14 hu (x := 1) rfl
          have hv : mkv σ w s = 1 := by unfold mkv hasE; exact xi_t (Or.inl q0)
          simp (disch := omega) only [e112_181, e112_182, e112_185, e112_185n, e112_186, e112_187, e112_189, e112_191, e112_192, e112_193, e112_195, e112_196, e112_197, e112_200, e112_203, e112_203n, e112_204, e112_205, e112_207, e112_209, e112_210, e112_211, e112_213, e112_216, e112_219, e112_220, e112_223, e112_224, e112_226, e112_226n, e112_227, e112_229, e112_230, e112_231, e112_233, e112_234, e112_237, e112_239, e112_239n, e112_240, e112_243, e112_245, e112_245n, e112_246, e112_249, e112_251, e112_252, e112_255, e112_257, e112_260, e112_261, e112_264, e112_265, e112_266, e112_268, e112_268n, e112_269, e112_272, e112_274, e112_275, e112_278, e112_279, e112_282, e112_283, e112_284, e112_286, e112_289, xKv, xK0, xKx, xKHv, xKH0, xk_none, xk_i, xk_f, xk_l, xk_r, xk_n, xc_i, xc_f, xc_l, xc_d, xc_r, xc_n, xo_some, List.map_cons, List.map_nil, List.sum_cons, List.sum_nil, xnzn, xpn0, xpn1, xpnb, xpnn, i10, i00, true_imp_iff, false_imp_iff, not_true_eq_false, not_false_eq_true, true_and, and_true, implies_true, xnz0, xnz1, xnzb, xfz0, xfz1, xfzb, Option.isSome_some, if_true, if_false, xbF, xbT, and_false, false_and, Nat.zero_le, Nat.reduceEqDiff, Nat.reduceLeDiff, Nat.reduceAdd, Nat.reduceSub, xiT, xiF, pk_mul, nI_add, Nat.add_sub_cancel, lad0, leq0, lle0, lge0, llt0, lgt0, leq1, lle1, lge1, llt1, lgt1, lad1, lsu1, leq2, lle2, lge2, llt2, lgt2, lmu2, lmv2, lad2, lsu2, ldi2, leq3, lle3, lge3, llt3, lgt3, lmu3, lmv3, lad3, lsu3, ldi3, leq4, lle4, lge4, llt4, lgt4, lmu4, lmv4, lad4, lsu4, ldi4, leq5, lle5, lge5, llt5, lgt5, lmu5, lmv5, lad5, lsu5, ldi5, leq6, lle6, lge6, llt6, lgt6, lmu6, lmv6, lad6, lsu6, ldi6, leq8, lle8, lge8, llt8, lgt8, lmu8, lmv8, lad8, lsu8, ldi8, leq9, lle9, lge9, llt9, lgt9, lmu9, lmv9, lad9, lsu9, ldi9, leq10, lle10, lge10, llt10, lgt10, lmu10, lmv10, lad10, lsu10, ldi10, leq12, lle12, lge12, llt12, lgt12, lmu12, lmv12, lad12, lsu12, ldi12, leq20, lle20, lge20, llt20, lgt20, lmu20, lmv20, lad20, lsu20, ldi20, leq25, lle25, lge25, llt25, lgt25, lmu25, lmv25, lad25, lsu25, ldi25, leq30, lle30, lge30, llt30, lgt30, lmu30, lmv30, lad30, lsu30, ldi30, leq48, lle48, lge48, llt48, lgt48, lmu48, lmv48, lad48, lsu48, ldi48, leq50, lle50, lge50, llt50, lgt50, lmu50, lmv50, lad50, lsu50, ldi50, leq99, lle99, lge99, llt99, lgt99, lmu99, lmv99, lad99, lsu99, ldi99, leq100, lle100, lge100, llt100, lgt100, lmu100, lmv100, lad100, lsu100, ldi100, leq2000, lle2000, lge2000, llt2000, lgt2000, lmu2000, lmv2000, lad2000, lsu2000, ldi2000, xlt, hlt, h.is, sp_eL h hI hw, sp_eR h hI hw, sp_upper1 h hI, h.a 14, ha14, e14, g.a 14, xin_nI, nI_cl, pk_us, xai_up, hL, sp_eL' h hI hw, hRt, q0]
          exact fin 1 1 _ _ hv rfl
end
