/-! the class: pass -/
theorem sm_snoc {f : Nat → Nat} : ∀ (n a : Nat), sm f (n + 1) a = sm f n a + f (a + n) := by
  intro n
  induction n with
  | zero => intro a; show f a + 0 = 0 + f (a + 0); rw [Nat.zero_add]; rfl
  | succ n ih =>
    intro a
    show f a + sm f (n + 1) (a + 1) = f a + sm f n (a + 1) + f (a + (n + 1))
    rw [ih (a + 1)]
    have : a + 1 + n = a + (n + 1) := by omega
    rw [this]
    omega
noncomputable def becv (σ : xS) (n a : Nat) : Nat := xi (bec σ n a) 1 0
def PI (σ τ : xS) (n cur : Nat) (σc τc : xS) (cnt : Nat) : Prop :=
  ((∀ c i, c ≠ 14 → ¬ (c = 0 ∧ i = 0) → σc c i = σ c i) ∧ σc 0 0 = σ 0 0 + n) ∧ (∀ c i, c ≠ 30 → τc c i = τ c i) ∧
  (∀ i, (∀ a, a < cur → ¬ offD σ a → i ≠ up σ a) → σc 14 i = σ 14 i ∧ τc 30 i = τ 30 i) ∧
  (∀ a, a < cur → ¬ offD σ a → τc 30 (up σ a) = τ 30 (up σ a) + n * mor σ a ∧ σc 14 (up σ a) = xi (bec σ n a ∧ σ 9 (up σ a) = 3 ∧ 30 ≤ σ 1 0) 1 (σ 14 (up σ a))) ∧
  cnt = sm (becv σ n) cur 0
section
variable {κ : Nat → Nat} {R : xR → xH → Prop} {A σ τ σc τc : xS} {h0 ah : xH} {w n cur cnt : Nat}
theorem PI_skip (h : PI σ τ n cur σc τc cnt) (ho : offD σ cur) : PI σ τ n (cur + 1) σc τc cnt := by
  obtain ⟨p1, p2, p3, p4, p5⟩ := h
  have hb : becv σ n cur = 0 := xi_f (fun q => q.1 ho)
  refine ⟨p1, p2, fun i hi => p3 i (fun a ha => hi a (by omega)), fun a ha hno => p4 a ?_ hno, ?_⟩
  · by_cases e : a = cur
    · subst e; exact absurd ho hno
    · omega
  · rw [sm_snoc, Nat.zero_add, hb]
    exact p5
theorem PI_step (h : PI σ τ n cur σc τc cnt) (ho : ¬ offD σ cur) (h8 : ∀ b, b < 120 → σ 8 b ≤ 6) (hc : cur < 120) : PI σ τ n (cur + 1) (su σc 14 (up σ cur) (xi (bec σ n cur ∧ σ 9 (up σ cur) = 3 ∧ 30 ≤ σ 1 0) 1 (σ 14 (up σ cur)))) (su τc 30 (up σ cur) (τ 30 (up σ cur) + n * mor σ cur)) (cnt + becv σ n cur) := by
  obtain ⟨p1, p2, p3, p4, p5⟩ := h
  have n8 : ¬ σ 8 cur = 0 := fun q => ho (Or.inl q)
  refine ⟨⟨fun c i h1 h2 => ?_, by rw [su_nr (by decide)]; exact p1.2⟩, fun c i h1 => ?_, fun i hi => ?_, fun a ha hno => ?_, ?_⟩
  · rw [su_nr (fun q => h1 q.symm)]; exact p1.1 c i h1 h2
  · rw [su_nr (fun q => h1 q.symm)]; exact p2 c i h1
  · have hne := hi cur (by omega) ho
    rw [su_ne (fun q => hne q.2), su_ne (fun q => hne q.2)]
    exact p3 i (fun a ha => hi a (by omega))
  · by_cases e : a = cur
    · subst e
      rw [su_eq, su_eq]
      exact ⟨rfl, rfl⟩
    · have n8a : ¬ σ 8 a = 0 := fun q => hno (Or.inl q)
      have hne := up_ne h8 (a := a) (b := cur) (by omega) hc n8a n8 e
      rw [su_ne (fun q => hne q.2), su_ne (fun q => hne q.2)]
      exact p4 a (by omega) hno
  · rw [sm_snoc, Nat.zero_add, p5]
theorem PI_pad (h : PI σ τ n cur σc τc cnt) : ∀ k, (∀ j, j < k → offD σ (cur + j)) → PI σ τ n (cur + k) σc τc cnt := by
  intro k
  induction k with
  | zero => intro _; exact h
  | succ k ih =>
    intro hj
    have := ih (fun j h => hj j (by omega))
    exact PI_skip this (hj k (by omega))
theorem mor_w (hI : MI σ) (hw : w < 10) {i : Nat} (hi : i < 12) : (if (1 : Int32) < nI (σ 1 0 / 2 + σ 2 0) - nI (σ 6 w) then nI (σ 1 0 / 2 + σ 2 0) - nI (σ 6 w) else 1) = nI (mor σ (12 * w + i)) := by
  have h := hI.wt2
  have h6 := hI.w6 hw
  have e : (12 * w + i) / 12 = w := by omega
  unfold mor
  rw [e]
  by_cases c : σ 6 w + 1 ≤ σ 1 0 / 2 + σ 2 0
  · rw [if_pos c, pk_sub (by omega)]
    by_cases c2 : 1 < σ 1 0 / 2 + σ 2 0 - σ 6 w
    · rw [if_pos (by rw [lgt1 (by omega)]; exact c2)]
    · rw [if_neg (by rw [lgt1 (by omega)]; exact c2)]
      have : σ 1 0 / 2 + σ 2 0 - σ 6 w = 1 := by omega
      rw [this]
      rfl
  · rw [if_neg c, if_neg]
    · rfl
    · intro q
      rw [Int32.lt_iff_toInt_lt, pk_sub_toInt (by omega) (by omega), show (1 : Int32).toInt = 1 from rfl] at q
      omega
theorem lp_dryF (hK : KI κ) {b2 b3 : Int32} (hI0 : MI σ) (hN : NIc σ) (hL : LKp σ τ) (hn : n ≤ 100) (hw : w < σ 3 0) (hw0 : b2 = nI (σ 1 0)) {base : Nat} : ∀ (m i b : Nat) (l7 : Option Value) (σc τc : xS) (ah : xH), i + m = σ 4 w → CR κ A σc τc h0 ah → MI σc → PI σ τ n (12 * w + i) σc τc (base + b) →
    (∀ (σc' τc' : xS) (b' : Nat) (ah' : xH), CR κ A σc' τc' h0 ah' → MI σc' → PI σ τ n (12 * w + σ 4 w) σc' τc' (base + b') → R (.inl (some (.int (nI b')))) ah') →
    xW (T48 κ) (xm κ) R (24, [some (.ref (A 13 w)), some (.int (nI n)), some (.int b2), some (.int b3), some (.int (nI (n * mor σ (12 * w)))), some (.int (nI b)), some (.int (nI i)), l7], [], ah, 0, 0) := by
  have hW := hI0.W
  have h4 := hI0.w4 (w := w) (by omega)
  have h8 : ∀ b, b < 120 → σ 8 b ≤ 6 := fun b hb => hI0.w8 hb
  intro m
  induction m with
  | zero =>
    intro i b l7 σc τc ah hi h hI hP hX
    have e3 : σc 3 0 = σ 3 0 := hP.1.1 3 0 (by decide) (by decide)
    have e4 : σc 4 w = σ 4 w := hP.1.1 4 w (by decide) (by omega)
    have hwc : w < σc 3 0 := by rw [e3]; exact hw
    have f1 : xfld ah (A 13 w) 9 0 = some (.ref (A 14 w)) := xfld_of (h.wall hwc)
    have hx : xis ah (A 14 w) 1 = True := xis_of (h.strips hwc).1
    have q := sp_lsize (R := xK (xW (T48 κ) (xm κ) R) R 33 [some (.ref (A 13 w)), some (.int (nI n)), some (.int b2), some (.int b3), some (.int (nI (n * mor σ (12 * w)))), some (.int (nI b)), some (.int (nI i)), l7] [.int (nI i)] 0 0) (κ := κ) (h.strips hwc).1
    rw [e48_24]
    simp (disch := omega) only [e48_26, e48_26n, e48_27, e48_30, e48_33, e48_36, e48_36n, e48_37, e48_40, e48_42, e48_45, e48_45n, e48_48, e48_51, e48_51n, e48_53, e48_53n, e48_55n, e48_55, e48_58, e48_58n, e48_60, e48_62, e48_63, e48_66, e48_69, e48_72, e48_75, e48_78, e48_80, xKv, xK0, xKx, xKHv, xKH0, xk_none, xk_i, xk_f, xk_l, xk_r, xk_n, xc_i, xc_f, xc_l, xc_d, xc_r, xc_n, xo_some, List.map_cons, List.map_nil, List.sum_cons, List.sum_nil, xnzn, xpn0, xpn1, xpnb, xpnn, i10, i00, true_imp_iff, false_imp_iff, not_true_eq_false, not_false_eq_true, true_and, and_true, implies_true, xnz0, xnz1, xnzb, xfz0, xfz1, xfzb, Option.isSome_some, if_true, if_false, xbF, xbT, and_false, false_and, Nat.zero_le, Nat.reduceEqDiff, Nat.reduceLeDiff, Nat.reduceAdd, Nat.reduceSub, xiT, xiF, pk_mul, nI_add, Nat.add_sub_cancel, lad0, leq0, lle0, lge0, llt0, lgt0, leq1, lle1, lge1, llt1, lgt1, lad1, lsu1, leq2, lle2, lge2, llt2, lgt2, lmu2, lmv2, lad2, lsu2, ldi2, leq3, lle3, lge3, llt3, lgt3, lmu3, lmv3, lad3, lsu3, ldi3, leq4, lle4, lge4, llt4, lgt4, lmu4, lmv4, lad4, lsu4, ldi4, leq5, lle5, lge5, llt5, lgt5, lmu5, lmv5, lad5, lsu5, ldi5, leq6, lle6, lge6, llt6, lgt6, lmu6, lmv6, lad6, lsu6, ldi6, leq8, lle8, lge8, llt8, lgt8, lmu8, lmv8, lad8, lsu8, ldi8, leq9, lle9, lge9, llt9, lgt9, lmu9, lmv9, lad9, lsu9, ldi9, leq10, lle10, lge10, llt10, lgt10, lmu10, lmv10, lad10, lsu10, ldi10, leq12, lle12, lge12, llt12, lgt12, lmu12, lmv12, lad12, lsu12, ldi12, leq20, lle20, lge20, llt20, lgt20, lmu20, lmv20, lad20, lsu20, ldi20, leq25, lle25, lge25, llt25, lgt25, lmu25, lmv25, lad25, lsu25, ldi25, leq30, lle30, lge30, llt30, lgt30, lmu30, lmv30, lad30, lsu30, ldi30, leq48, lle48, lge48, llt48, lgt48, lmu48, lmv48, lad48, lsu48, ldi48, leq50, lle50, lge50, llt50, lgt50, lmu50, lmv50, lad50, lsu50, ldi50, leq99, lle99, lge99, llt99, lgt99, lmu99, lmv99, lad99, lsu99, ldi99, leq100, lle100, lge100, llt100, lgt100, lmu100, lmv100, lad100, lsu100, ldi100, leq2000, lle2000, lge2000, llt2000, lgt2000, lmu2000, lmv2000, lad2000, lsu2000, ldi2000, f1, hx, sp_lsize (h.strips hwc).1, e4, xle, leT]
    have hi' : i = σ 4 w := by omega
    subst hi'
    exact hX σc τc b ah h hI hP
  | succ m ih =>
    intro i b l7 σc τc ah hi h hI hP hX
    obtain ⟨p1, p2, p3, p4, p5⟩ := id hP
    have e3 : σc 3 0 = σ 3 0 := p1.1 3 0 (by decide) (by decide)
    have e4 : σc 4 w = σ 4 w := p1.1 4 w (by decide) (by omega)
    have hwc : w < σc 3 0 := by rw [e3]; exact hw
    obtain ⟨hsv, s1, s2⟩ := sv_i hI0 hw (s := i) (by omega)
    obtain ⟨hsvc, -, -⟩ := sv_i hI hwc (s := i) (by omega)
    have f1 : xfld ah (A 13 w) 9 0 = some (.ref (A 14 w)) := xfld_of (h.wall hwc)
    have hx : xis ah (A 14 w) 1 = True := xis_of (h.strips hwc).1
    have hx2 : xis ah (A 16 (12 * w + i)) 8 = True := xis_of (h.strip hsvc)
    have la := sv_lt hI0 hsv
    have e8 : σc 8 (12 * w + i) = σ 8 (12 * w + i) := p1.1 8 _ (by decide) (by omega)
    have em : mor σ (12 * w) = mor σ (12 * w + i) := by
      have a1 : 12 * w / 12 = w := by omega
      unfold mor
      rw [a1, s1]
    have ecur : 12 * w + i + 1 = 12 * w + (i + 1) := by omega
    have skip : offD σ (12 * w + i) → ∀ l7, xW (T48 κ) (xm κ) R (24, [some (.ref (A 13 w)), some (.int (nI n)), some (.int b2), some (.int b3), some (.int (nI (n * mor σ (12 * w)))), some (.int (nI b)), some (.int (nI (i + 1))), l7], [], ah, 0, 0) := fun ho l7 => ih (i + 1) b l7 σc τc ah (by omega) h hI (by rw [← ecur]; exact PI_skip hP ho) hX
    rw [e48_24]
    by_cases n8 : σ 8 (12 * w + i) = 0
    · have st := skip (Or.inl n8)
      have n8c : σc 8 (12 * w + i) = 0 := by rw [e8]; exact n8
      simp (disch := omega) only [e48_26, e48_26n, e48_27, e48_30, e48_33, e48_36, e48_36n, e48_37, e48_40, e48_42, e48_45, e48_45n, e48_48, e48_51, e48_51n, e48_53, e48_53n, e48_55n, e48_55, e48_58, e48_58n, e48_60, e48_62, e48_63, e48_66, e48_69, e48_72, e48_75, xKv, xK0, xKx, xKHv, xKH0, xk_none, xk_i, xk_f, xk_l, xk_r, xk_n, xc_i, xc_f, xc_l, xc_d, xc_r, xc_n, xo_some, List.map_cons, List.map_nil, List.sum_cons, List.sum_nil, xnzn, xpn0, xpn1, xpnb, xpnn, i10, i00, true_imp_iff, false_imp_iff, not_true_eq_false, not_false_eq_true, true_and, and_true, implies_true, xnz0, xnz1, xnzb, xfz0, xfz1, xfzb, Option.isSome_some, if_true, if_false, xbF, xbT, and_false, false_and, Nat.zero_le, Nat.reduceEqDiff, Nat.reduceLeDiff, Nat.reduceAdd, Nat.reduceSub, xiT, xiF, pk_mul, nI_add, Nat.add_sub_cancel, lad0, leq0, lle0, lge0, llt0, lgt0, leq1, lle1, lge1, llt1, lgt1, lad1, lsu1, leq2, lle2, lge2, llt2, lgt2, lmu2, lmv2, lad2, lsu2, ldi2, leq3, lle3, lge3, llt3, lgt3, lmu3, lmv3, lad3, lsu3, ldi3, leq4, lle4, lge4, llt4, lgt4, lmu4, lmv4, lad4, lsu4, ldi4, leq5, lle5, lge5, llt5, lgt5, lmu5, lmv5, lad5, lsu5, ldi5, leq6, lle6, lge6, llt6, lgt6, lmu6, lmv6, lad6, lsu6, ldi6, leq8, lle8, lge8, llt8, lgt8, lmu8, lmv8, lad8, lsu8, ldi8, leq9, lle9, lge9, llt9, lgt9, lmu9, lmv9, lad9, lsu9, ldi9, leq10, lle10, lge10, llt10, lgt10, lmu10, lmv10, lad10, lsu10, ldi10, leq12, lle12, lge12, llt12, lgt12, lmu12, lmv12, lad12, lsu12, ldi12, leq20, lle20, lge20, llt20, lgt20, lmu20, lmv20, lad20, lsu20, ldi20, leq25, lle25, lge25, llt25, lgt25, lmu25, lmv25, lad25, lsu25, ldi25, leq30, lle30, lge30, llt30, lgt30, lmu30, lmv30, lad30, lsu30, ldi30, leq48, lle48, lge48, llt48, lgt48, lmu48, lmv48, lad48, lsu48, ldi48, leq50, lle50, lge50, llt50, lgt50, lmu50, lmv50, lad50, lsu50, ldi50, leq99, lle99, lge99, llt99, lgt99, lmu99, lmv99, lad99, lsu99, ldi99, leq100, lle100, lge100, llt100, lgt100, lmu100, lmv100, lad100, lsu100, ldi100, leq2000, lle2000, lge2000, llt2000, lgt2000, lmu2000, lmv2000, lad2000, lsu2000, ldi2000, f1, hx, hx2, sp_lsize (h.strips hwc).1, e4, xle, leF, sp_lget (h.strips hwc), sp_top0 h hI hsvc n8c]
      exact st _
    · have n8c : ¬ σc 8 (12 * w + i) = 0 := by rw [e8]; exact n8
      have eu : up σc (12 * w + i) = up σ (12 * w + i) := by unfold up; rw [e8]
      have htop := h.top hI hsvc n8c
      rw [eu] at htop
      have hul := up_lt n8 (h8 _ la) la
      have hc := hI0.c hul
      have hu19 : cU σc τc 19 (up σ (12 * w + i)) := by rw [← eu, up_k n8c]; exact cU19 hI hsvc (by omega)
      have fresh := p3 (up σ (12 * w + i)) (fun a ha hno => up_ne h8 la (by omega) n8 (fun q => hno (Or.inl q)) (by omega))
      have r9 : σc 9 (up σ (12 * w + i)) = σ 9 (up σ (12 * w + i)) := p1.1 9 _ (by decide) (by omega)
      have r10 : σc 10 (up σ (12 * w + i)) = σ 10 (up σ (12 * w + i)) := p1.1 10 _ (by decide) (by omega)
      have hlk := hL (12 * w + i) (σ 8 (12 * w + i) - 1) hsv (by omega)
      rw [← up_k n8] at hlk
      obtain ⟨k1, k2, k3⟩ := hlk
      have hmor := mor_le hI0 (12 * w + i)
      have hnm : n * mor σ (12 * w + i) ≤ 100 * 45 := Nat.mul_le_mul hn hmor.2
      have g := fun v14 pt => h.coatW hu19 v14 (σc 15 (up σ (12 * w + i))) pt
      have es : ∀ v14, su (su σc 14 (up σ (12 * w + i)) v14) 15 (up σ (12 * w + i)) (σc 15 (up σ (12 * w + i))) = su σc 14 (up σ (12 * w + i)) v14 := fun v14 => su_id (su_nr (by decide)).symm
      simp only [es] at g
      have hx3 : xis ah (A 19 (up σ (12 * w + i))) 2 := ⟨_, htop⟩
      have nx : ∀ (v14 : Nat) (ah1 : xH) (bv : Nat), ¬ offD σ (12 * w + i) → v14 = xi (bec σ n (12 * w + i) ∧ σ 9 (up σ (12 * w + i)) = 3 ∧ 30 ≤ σ 1 0) 1 (σ 14 (up σ (12 * w + i))) → bv = becv σ n (12 * w + i) → CR κ A (su σc 14 (up σ (12 * w + i)) v14) (su τc 30 (up σ (12 * w + i)) (τ 30 (up σ (12 * w + i)) + n * mor σ (12 * w + i))) h0 ah1 → ∀ l7, xW (T48 κ) (xm κ) R (24, [some (.ref (A 13 w)), some (.int (nI n)), some (.int b2), some (.int b3), some (.int (nI (n * mor σ (12 * w)))), some (.int (nI (b + bv))), some (.int (nI (i + 1))), l7], [], ah1, 0, 0) := by
        intro v14 ah1 bv ho hv hbv hcr l7
        subst hv; subst hbv
        refine ih (i + 1) (b + becv σ n (12 * w + i)) l7 _ _ ah1 (by omega) hcr (MI_14 hI ?_) ?_ hX
        · have := xi01 (bec σ n (12 * w + i) ∧ σ 9 (up σ (12 * w + i)) = 3 ∧ 30 ≤ σ 1 0)
          by_cases q : bec σ n (12 * w + i) ∧ σ 9 (up σ (12 * w + i)) = 3 ∧ 30 ≤ σ 1 0
          · rw [xi_t q]; exact Nat.le_refl 1
          · rw [xi_f q]; exact hc.2.2.2.2.2.1
        · rw [← ecur, ← Nat.add_assoc]
          exact PI_step hP ho h8 la
      simp (disch := omega) only [e48_26, e48_26n, e48_27, e48_30, e48_33, e48_36, e48_36n, e48_37, e48_40, e48_42, e48_45, e48_45n, e48_48, e48_51, e48_51n, e48_53, e48_53n, e48_55n, e48_55, e48_58, e48_58n, e48_60, e48_62, xKv, xK0, xKx, xKHv, xKH0, xk_none, xk_i, xk_f, xk_l, xk_r, xk_n, xc_i, xc_f, xc_l, xc_d, xc_r, xc_n, xo_some, List.map_cons, List.map_nil, List.sum_cons, List.sum_nil, xnzn, xpn0, xpn1, xpnb, xpnn, i10, i00, true_imp_iff, false_imp_iff, not_true_eq_false, not_false_eq_true, true_and, and_true, implies_true, xnz0, xnz1, xnzb, xfz0, xfz1, xfzb, Option.isSome_some, if_true, if_false, xbF, xbT, and_false, false_and, Nat.zero_le, Nat.reduceEqDiff, Nat.reduceLeDiff, Nat.reduceAdd, Nat.reduceSub, xiT, xiF, pk_mul, nI_add, Nat.add_sub_cancel, lad0, leq0, lle0, lge0, llt0, lgt0, leq1, lle1, lge1, llt1, lgt1, lad1, lsu1, leq2, lle2, lge2, llt2, lgt2, lmu2, lmv2, lad2, lsu2, ldi2, leq3, lle3, lge3, llt3, lgt3, lmu3, lmv3, lad3, lsu3, ldi3, leq4, lle4, lge4, llt4, lgt4, lmu4, lmv4, lad4, lsu4, ldi4, leq5, lle5, lge5, llt5, lgt5, lmu5, lmv5, lad5, lsu5, ldi5, leq6, lle6, lge6, llt6, lgt6, lmu6, lmv6, lad6, lsu6, ldi6, leq8, lle8, lge8, llt8, lgt8, lmu8, lmv8, lad8, lsu8, ldi8, leq9, lle9, lge9, llt9, lgt9, lmu9, lmv9, lad9, lsu9, ldi9, leq10, lle10, lge10, llt10, lgt10, lmu10, lmv10, lad10, lsu10, ldi10, leq12, lle12, lge12, llt12, lgt12, lmu12, lmv12, lad12, lsu12, ldi12, leq20, lle20, lge20, llt20, lgt20, lmu20, lmv20, lad20, lsu20, ldi20, leq25, lle25, lge25, llt25, lgt25, lmu25, lmv25, lad25, lsu25, ldi25, leq30, lle30, lge30, llt30, lgt30, lmu30, lmv30, lad30, lsu30, ldi30, leq48, lle48, lge48, llt48, lgt48, lmu48, lmv48, lad48, lsu48, ldi48, leq50, lle50, lge50, llt50, lgt50, lmu50, lmv50, lad50, lsu50, ldi50, leq99, lle99, lge99, llt99, lgt99, lmu99, lmv99, lad99, lsu99, ldi99, leq100, lle100, lge100, llt100, lgt100, lmu100, lmv100, lad100, lsu100, ldi100, leq2000, lle2000, lge2000, llt2000, lgt2000, lmu2000, lmv2000, lad2000, lsu2000, ldi2000, f1, hx, hx2, sp_lsize (h.strips hwc).1, e4, xle, leF, sp_lget (h.strips hwc), sp_top1 h hI hsvc n8c, eu]
      rw [e48_63, hw0, em]
      have hkk := hI0.wt2
      refine ⟨⟨by decide, hx3⟩, sp_driesBy hK htop (by rw [r9]; omega) (by rw [r10]; exact hc.2.1) (by rw [fresh.2]; omega) (by omega) (by omega) (fun c1 => ?_) (fun c1 c2 => ?_) (fun c1 c2 c3 => ?_) (fun c1 c2 c3 => ?_)⟩
      · rw [r9, r10, fresh.2] at c1
        have ho : offD σ (12 * w + i) := Or.inr (by rw [k1.mp c1]; decide)
        have st := skip ho
        rw [hw0, em] at st
        show xW _ _ _ _
        simp (disch := omega) only [e48_66, e48_69, e48_72, e48_75, xKv, xK0, xKx, xKHv, xKH0, xk_none, xk_i, xk_f, xk_l, xk_r, xk_n, xc_i, xc_f, xc_l, xc_d, xc_r, xc_n, xo_some, List.map_cons, List.map_nil, List.sum_cons, List.sum_nil, xnzn, xpn0, xpn1, xpnb, xpnn, i10, i00, true_imp_iff, false_imp_iff, not_true_eq_false, not_false_eq_true, true_and, and_true, implies_true, xnz0, xnz1, xnzb, xfz0, xfz1, xfzb, Option.isSome_some, if_true, if_false, xbF, xbT, and_false, false_and, Nat.zero_le, Nat.reduceEqDiff, Nat.reduceLeDiff, Nat.reduceAdd, Nat.reduceSub, xiT, xiF, pk_mul, nI_add, Nat.add_sub_cancel, lad0, leq0, lle0, lge0, llt0, lgt0, leq1, lle1, lge1, llt1, lgt1, lad1, lsu1, leq2, lle2, lge2, llt2, lgt2, lmu2, lmv2, lad2, lsu2, ldi2, leq3, lle3, lge3, llt3, lgt3, lmu3, lmv3, lad3, lsu3, ldi3, leq4, lle4, lge4, llt4, lgt4, lmu4, lmv4, lad4, lsu4, ldi4, leq5, lle5, lge5, llt5, lgt5, lmu5, lmv5, lad5, lsu5, ldi5, leq6, lle6, lge6, llt6, lgt6, lmu6, lmv6, lad6, lsu6, ldi6, leq8, lle8, lge8, llt8, lgt8, lmu8, lmv8, lad8, lsu8, ldi8, leq9, lle9, lge9, llt9, lgt9, lmu9, lmv9, lad9, lsu9, ldi9, leq10, lle10, lge10, llt10, lgt10, lmu10, lmv10, lad10, lsu10, ldi10, leq12, lle12, lge12, llt12, lgt12, lmu12, lmv12, lad12, lsu12, ldi12, leq20, lle20, lge20, llt20, lgt20, lmu20, lmv20, lad20, lsu20, ldi20, leq25, lle25, lge25, llt25, lgt25, lmu25, lmv25, lad25, lsu25, ldi25, leq30, lle30, lge30, llt30, lgt30, lmu30, lmv30, lad30, lsu30, ldi30, leq48, lle48, lge48, llt48, lgt48, lmu48, lmv48, lad48, lsu48, ldi48, leq50, lle50, lge50, llt50, lgt50, lmu50, lmv50, lad50, lsu50, ldi50, leq99, lle99, lge99, llt99, lgt99, lmu99, lmv99, lad99, lsu99, ldi99, leq100, lle100, lge100, llt100, lgt100, lmu100, lmv100, lad100, lsu100, ldi100, leq2000, lle2000, lge2000, llt2000, lgt2000, lmu2000, lmv2000, lad2000, lsu2000, ldi2000]
        exact st _
      · rw [r9, r10, fresh.2] at c1 c2
        have h13 : σ 13 (up σ (12 * w + i)) = 0 := by
          have := hc.2.2.2.2.1
          have : ¬ σ 13 (up σ (12 * w + i)) = 1 := fun q => c1 (k1.mpr q)
          omega
        have ho : ¬ offD σ (12 * w + i) := fun q => q.elim n8 (fun q => q h13)
        have hb : ¬ bec σ n (12 * w + i) := fun q => c2 (by have := q.2; rw [k2 h13]; exact this)
        have st := nx (σ 14 (up σ (12 * w + i))) _ 0 ho (xi_f (fun q => hb q.1)).symm (xi_f hb).symm (by
          have := g (σ 14 (up σ (12 * w + i))) (τ 30 (up σ (12 * w + i)) + n * mor σ (12 * w + i))
          exact this)
        rw [hw0, em, Nat.add_zero] at st
        show xW _ _ _ _
        rw [fresh.1, fresh.2]
        simp (disch := omega) only [e48_66, e48_69, e48_72, e48_75, xKv, xK0, xKx, xKHv, xKH0, xk_none, xk_i, xk_f, xk_l, xk_r, xk_n, xc_i, xc_f, xc_l, xc_d, xc_r, xc_n, xo_some, List.map_cons, List.map_nil, List.sum_cons, List.sum_nil, xnzn, xpn0, xpn1, xpnb, xpnn, i10, i00, true_imp_iff, false_imp_iff, not_true_eq_false, not_false_eq_true, true_and, and_true, implies_true, xnz0, xnz1, xnzb, xfz0, xfz1, xfzb, Option.isSome_some, if_true, if_false, xbF, xbT, and_false, false_and, Nat.zero_le, Nat.reduceEqDiff, Nat.reduceLeDiff, Nat.reduceAdd, Nat.reduceSub, xiT, xiF, pk_mul, nI_add, Nat.add_sub_cancel, lad0, leq0, lle0, lge0, llt0, lgt0, leq1, lle1, lge1, llt1, lgt1, lad1, lsu1, leq2, lle2, lge2, llt2, lgt2, lmu2, lmv2, lad2, lsu2, ldi2, leq3, lle3, lge3, llt3, lgt3, lmu3, lmv3, lad3, lsu3, ldi3, leq4, lle4, lge4, llt4, lgt4, lmu4, lmv4, lad4, lsu4, ldi4, leq5, lle5, lge5, llt5, lgt5, lmu5, lmv5, lad5, lsu5, ldi5, leq6, lle6, lge6, llt6, lgt6, lmu6, lmv6, lad6, lsu6, ldi6, leq8, lle8, lge8, llt8, lgt8, lmu8, lmv8, lad8, lsu8, ldi8, leq9, lle9, lge9, llt9, lgt9, lmu9, lmv9, lad9, lsu9, ldi9, leq10, lle10, lge10, llt10, lgt10, lmu10, lmv10, lad10, lsu10, ldi10, leq12, lle12, lge12, llt12, lgt12, lmu12, lmv12, lad12, lsu12, ldi12, leq20, lle20, lge20, llt20, lgt20, lmu20, lmv20, lad20, lsu20, ldi20, leq25, lle25, lge25, llt25, lgt25, lmu25, lmv25, lad25, lsu25, ldi25, leq30, lle30, lge30, llt30, lgt30, lmu30, lmv30, lad30, lsu30, ldi30, leq48, lle48, lge48, llt48, lgt48, lmu48, lmv48, lad48, lsu48, ldi48, leq50, lle50, lge50, llt50, lgt50, lmu50, lmv50, lad50, lsu50, ldi50, leq99, lle99, lge99, llt99, lgt99, lmu99, lmv99, lad99, lsu99, ldi99, leq100, lle100, lge100, llt100, lgt100, lmu100, lmv100, lad100, lsu100, ldi100, leq2000, lle2000, lge2000, llt2000, lgt2000, lmu2000, lmv2000, lad2000, lsu2000, ldi2000]
        exact st _
      · rw [r9, r10, fresh.2] at c1
        rw [r9, r10, fresh.2] at c2
        rw [r9] at c3
        have h13 : σ 13 (up σ (12 * w + i)) = 0 := by
          have := hc.2.2.2.2.1
          have : ¬ σ 13 (up σ (12 * w + i)) = 1 := fun q => c1 (k1.mpr q)
          omega
        have ho : ¬ offD σ (12 * w + i) := fun q => q.elim n8 (fun q => q h13)
        have hb : bec σ n (12 * w + i) := ⟨ho, by rw [← k2 h13]; exact c2⟩
        have st := nx 1 _ 1 ho (xi_t ⟨hb, c3⟩).symm (xi_t hb).symm (g 1 (τ 30 (up σ (12 * w + i)) + n * mor σ (12 * w + i)))
        rw [hw0, em] at st
        show xW _ _ _ _
        rw [fresh.2]
        simp (disch := omega) only [e48_66, e48_69, e48_72, e48_75, xKv, xK0, xKx, xKHv, xKH0, xk_none, xk_i, xk_f, xk_l, xk_r, xk_n, xc_i, xc_f, xc_l, xc_d, xc_r, xc_n, xo_some, List.map_cons, List.map_nil, List.sum_cons, List.sum_nil, xnzn, xpn0, xpn1, xpnb, xpnn, i10, i00, true_imp_iff, false_imp_iff, not_true_eq_false, not_false_eq_true, true_and, and_true, implies_true, xnz0, xnz1, xnzb, xfz0, xfz1, xfzb, Option.isSome_some, if_true, if_false, xbF, xbT, and_false, false_and, Nat.zero_le, Nat.reduceEqDiff, Nat.reduceLeDiff, Nat.reduceAdd, Nat.reduceSub, xiT, xiF, pk_mul, nI_add, Nat.add_sub_cancel, lad0, leq0, lle0, lge0, llt0, lgt0, leq1, lle1, lge1, llt1, lgt1, lad1, lsu1, leq2, lle2, lge2, llt2, lgt2, lmu2, lmv2, lad2, lsu2, ldi2, leq3, lle3, lge3, llt3, lgt3, lmu3, lmv3, lad3, lsu3, ldi3, leq4, lle4, lge4, llt4, lgt4, lmu4, lmv4, lad4, lsu4, ldi4, leq5, lle5, lge5, llt5, lgt5, lmu5, lmv5, lad5, lsu5, ldi5, leq6, lle6, lge6, llt6, lgt6, lmu6, lmv6, lad6, lsu6, ldi6, leq8, lle8, lge8, llt8, lgt8, lmu8, lmv8, lad8, lsu8, ldi8, leq9, lle9, lge9, llt9, lgt9, lmu9, lmv9, lad9, lsu9, ldi9, leq10, lle10, lge10, llt10, lgt10, lmu10, lmv10, lad10, lsu10, ldi10, leq12, lle12, lge12, llt12, lgt12, lmu12, lmv12, lad12, lsu12, ldi12, leq20, lle20, lge20, llt20, lgt20, lmu20, lmv20, lad20, lsu20, ldi20, leq25, lle25, lge25, llt25, lgt25, lmu25, lmv25, lad25, lsu25, ldi25, leq30, lle30, lge30, llt30, lgt30, lmu30, lmv30, lad30, lsu30, ldi30, leq48, lle48, lge48, llt48, lgt48, lmu48, lmv48, lad48, lsu48, ldi48, leq50, lle50, lge50, llt50, lgt50, lmu50, lmv50, lad50, lsu50, ldi50, leq99, lle99, lge99, llt99, lgt99, lmu99, lmv99, lad99, lsu99, ldi99, leq100, lle100, lge100, llt100, lgt100, lmu100, lmv100, lad100, lsu100, ldi100, leq2000, lle2000, lge2000, llt2000, lgt2000, lmu2000, lmv2000, lad2000, lsu2000, ldi2000]
        exact st _
      · rw [r9, r10, fresh.2] at c1
        rw [r9, r10, fresh.2] at c2
        rw [r9] at c3
        have h13 : σ 13 (up σ (12 * w + i)) = 0 := by
          have := hc.2.2.2.2.1
          have : ¬ σ 13 (up σ (12 * w + i)) = 1 := fun q => c1 (k1.mpr q)
          omega
        have ho : ¬ offD σ (12 * w + i) := fun q => q.elim n8 (fun q => q h13)
        have hb : bec σ n (12 * w + i) := ⟨ho, by rw [← k2 h13]; exact c2⟩
        have st := nx (σ 14 (up σ (12 * w + i))) _ 1 ho (xi_f (fun q => c3 q.2)).symm (xi_t hb).symm (by
          have := g (σ 14 (up σ (12 * w + i))) (τ 30 (up σ (12 * w + i)) + n * mor σ (12 * w + i))
          exact this)
        rw [hw0, em] at st
        show xW _ _ _ _
        rw [fresh.1, fresh.2]
        simp (disch := omega) only [e48_66, e48_69, e48_72, e48_75, xKv, xK0, xKx, xKHv, xKH0, xk_none, xk_i, xk_f, xk_l, xk_r, xk_n, xc_i, xc_f, xc_l, xc_d, xc_r, xc_n, xo_some, List.map_cons, List.map_nil, List.sum_cons, List.sum_nil, xnzn, xpn0, xpn1, xpnb, xpnn, i10, i00, true_imp_iff, false_imp_iff, not_true_eq_false, not_false_eq_true, true_and, and_true, implies_true, xnz0, xnz1, xnzb, xfz0, xfz1, xfzb, Option.isSome_some, if_true, if_false, xbF, xbT, and_false, false_and, Nat.zero_le, Nat.reduceEqDiff, Nat.reduceLeDiff, Nat.reduceAdd, Nat.reduceSub, xiT, xiF, pk_mul, nI_add, Nat.add_sub_cancel, lad0, leq0, lle0, lge0, llt0, lgt0, leq1, lle1, lge1, llt1, lgt1, lad1, lsu1, leq2, lle2, lge2, llt2, lgt2, lmu2, lmv2, lad2, lsu2, ldi2, leq3, lle3, lge3, llt3, lgt3, lmu3, lmv3, lad3, lsu3, ldi3, leq4, lle4, lge4, llt4, lgt4, lmu4, lmv4, lad4, lsu4, ldi4, leq5, lle5, lge5, llt5, lgt5, lmu5, lmv5, lad5, lsu5, ldi5, leq6, lle6, lge6, llt6, lgt6, lmu6, lmv6, lad6, lsu6, ldi6, leq8, lle8, lge8, llt8, lgt8, lmu8, lmv8, lad8, lsu8, ldi8, leq9, lle9, lge9, llt9, lgt9, lmu9, lmv9, lad9, lsu9, ldi9, leq10, lle10, lge10, llt10, lgt10, lmu10, lmv10, lad10, lsu10, ldi10, leq12, lle12, lge12, llt12, lgt12, lmu12, lmv12, lad12, lsu12, ldi12, leq20, lle20, lge20, llt20, lgt20, lmu20, lmv20, lad20, lsu20, ldi20, leq25, lle25, lge25, llt25, lgt25, lmu25, lmv25, lad25, lsu25, ldi25, leq30, lle30, lge30, llt30, lgt30, lmu30, lmv30, lad30, lsu30, ldi30, leq48, lle48, lge48, llt48, lgt48, lmu48, lmv48, lad48, lsu48, ldi48, leq50, lle50, lge50, llt50, lgt50, lmu50, lmv50, lad50, lsu50, ldi50, leq99, lle99, lge99, llt99, lgt99, lmu99, lmv99, lad99, lsu99, ldi99, leq100, lle100, lge100, llt100, lgt100, lmu100, lmv100, lad100, lsu100, ldi100, leq2000, lle2000, lge2000, llt2000, lgt2000, lmu2000, lmv2000, lad2000, lsu2000, ldi2000]
        exact st _
theorem sp_dryF (hK : KI κ) (hI0 : MI σ) (hN : NIc σ) (hL : LKp σ τ) (hn : n ≤ 100) (hw : w < σ 3 0) {base : Nat} (h : CR κ A σc τc h0 ah) (hI : MI σc) (hP : PI σ τ n (12 * w) σc τc base)
    (hX : ∀ (σc' τc' : xS) (b' : Nat) (ah' : xH), CR κ A σc' τc' h0 ah' → MI σc' → PI σ τ n (12 * (w + 1)) σc' τc' (base + b') → R (.inl (some (.int (nI b')))) ah') : xm κ 48 [.ref (A 13 w), .int (nI n), .int (nI (σ 1 0)), .int (nI (σ 2 0))] ah R := by
  have hW := hI0.W
  have h4 := hI0.w4 (w := w) (by omega)
  have e3 : σc 3 0 = σ 3 0 := hP.1.1 3 0 (by decide) (by decide)
  have e6 : σc 6 w = σ 6 w := hP.1.1 6 w (by decide) (by omega)
  have hwc : w < σc 3 0 := by rw [e3]; exact hw
  have f1 : xfld ah (A 13 w) 9 1 = some (.int (nI (σ 6 w))) := by
    have := h.wall hwc
    rw [e6] at this
    exact xfld_of this
  have hk := hI0.wt2
  have hm := mor_w hI0 (w := w) (by omega) (i := 0) (by omega)
  rw [Nat.add_zero] at hm
  simp (disch := omega) only [e48_0, e48_1, e48_2, e48_3, e48_4, e48_5, e48_6, e48_7, e48_7n, e48_8, e48_11, e48_12, e48_15, e48_16, e48_18, e48_19, e48_21, e48_22, en48, xKv, xK0, xKx, xKHv, xKH0, xk_none, xk_i, xk_f, xk_l, xk_r, xk_n, xc_i, xc_f, xc_l, xc_d, xc_r, xc_n, xo_some, List.map_cons, List.map_nil, List.sum_cons, List.sum_nil, xnzn, xpn0, xpn1, xpnb, xpnn, i10, i00, true_imp_iff, false_imp_iff, not_true_eq_false, not_false_eq_true, true_and, and_true, implies_true, xnz0, xnz1, xnzb, xfz0, xfz1, xfzb, Option.isSome_some, if_true, if_false, xbF, xbT, and_false, false_and, Nat.zero_le, Nat.reduceEqDiff, Nat.reduceLeDiff, Nat.reduceAdd, Nat.reduceSub, xiT, xiF, pk_mul, nI_add, Nat.add_sub_cancel, lad0, leq0, lle0, lge0, llt0, lgt0, leq1, lle1, lge1, llt1, lgt1, lad1, lsu1, leq2, lle2, lge2, llt2, lgt2, lmu2, lmv2, lad2, lsu2, ldi2, leq3, lle3, lge3, llt3, lgt3, lmu3, lmv3, lad3, lsu3, ldi3, leq4, lle4, lge4, llt4, lgt4, lmu4, lmv4, lad4, lsu4, ldi4, leq5, lle5, lge5, llt5, lgt5, lmu5, lmv5, lad5, lsu5, ldi5, leq6, lle6, lge6, llt6, lgt6, lmu6, lmv6, lad6, lsu6, ldi6, leq8, lle8, lge8, llt8, lgt8, lmu8, lmv8, lad8, lsu8, ldi8, leq9, lle9, lge9, llt9, lgt9, lmu9, lmv9, lad9, lsu9, ldi9, leq10, lle10, lge10, llt10, lgt10, lmu10, lmv10, lad10, lsu10, ldi10, leq12, lle12, lge12, llt12, lgt12, lmu12, lmv12, lad12, lsu12, ldi12, leq20, lle20, lge20, llt20, lgt20, lmu20, lmv20, lad20, lsu20, ldi20, leq25, lle25, lge25, llt25, lgt25, lmu25, lmv25, lad25, lsu25, ldi25, leq30, lle30, lge30, llt30, lgt30, lmu30, lmv30, lad30, lsu30, ldi30, leq48, lle48, lge48, llt48, lgt48, lmu48, lmv48, lad48, lsu48, ldi48, leq50, lle50, lge50, llt50, lgt50, lmu50, lmv50, lad50, lsu50, ldi50, leq99, lle99, lge99, llt99, lgt99, lmu99, lmv99, lad99, lsu99, ldi99, leq100, lle100, lge100, llt100, lgt100, lmu100, lmv100, lad100, lsu100, ldi100, leq2000, lle2000, lge2000, llt2000, lgt2000, lmu2000, lmv2000, lad2000, lsu2000, ldi2000, i20, i30, n20, n30, n10, n00, k20, k10, k00, k30, f1, hm]
  refine lp_dryF hK hI0 hN hL hn hw rfl (σ 4 w) 0 0 none σc τc ah (by omega) h hI hP (fun σc' τc' b' ah' q1 q2 q3 => hX σc' τc' b' ah' q1 q2 ?_)
  have := PI_pad q3 (12 - σ 4 w) (fun j hj => Or.inl ?_)
  · have e : 12 * w + σ 4 w + (12 - σ 4 w) = 12 * (w + 1) := by omega
    rw [e] at this
    exact this
  · have := hI0.off (w := w) (s := σ 4 w + j) (by omega) (by omega) (by omega)
    rw [← Nat.add_assoc] at this
    exact this
theorem CR.cgr {σ' : xS} (h : CR κ A σ τ h0 ah) (he : ∀ c i, c ∉ [12, 13, 22, 24, 25] → σ' c i = σ c i) : CR κ A σ' τ h0 ah := by
  have g : ∀ c, c ∉ [12, 13, 22, 24, 25] → ∀ i, σ' c i = σ c i := fun c hc i => he c i hc
  have g0 := g 0 (by decide)
  have g1 := g 1 (by decide)
  have g2 := g 2 (by decide)
  have g3 := g 3 (by decide)
  have g4 := g 4 (by decide)
  have g5 := g 5 (by decide)
  have g6 := g 6 (by decide)
  have g7 := g 7 (by decide)
  have g8 := g 8 (by decide)
  have g9 := g 9 (by decide)
  have g10 := g 10 (by decide)
  have g11 := g 11 (by decide)
  have g14 := g 14 (by decide)
  have g15 := g 15 (by decide)
  have g16 := g 16 (by decide)
  have g17 := g 17 (by decide)
  have g18 := g 18 (by decide)
  have g19 := g 19 (by decide)
  have g20 := g 20 (by decide)
  have g21 := g 21 (by decide)
  have g23 := g 23 (by decide)
  have gs : ∀ a, sv σ' a = sv σ a := fun a => by unfold sv; rw [g3, g4]
  have eU : ∀ k i, cU σ' τ k i = cU σ τ k i := fun k i => by
    unfold cU
    split <;> simp only [g3, g4, g8, g16, g20, gs]
  have eC : ∀ k i, cC κ A σ' τ k i = cC κ A σ τ k i := fun k i => by
    unfold cC
    split <;> simp only [g0, g1, g2, g3, g4, g5, g6, g7, g8, g9, g10, g11, g14, g15, g16, g17, g18, g19, g20, g21, g23]
  refine ⟨h.1.cg (fun k i hu => by rw [eU] at hu; exact hu) (fun _ _ _ => rfl) (fun k i _ => eC k i), ?_⟩
  have := h.2
  unfold CW at this ⊢
  simp only [g3, g4, g8, g16, g20, gs]
  exact this
end

