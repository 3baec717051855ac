/-! the class: a strip's layCoat and strikeTop -/
section
variable {κ : Nat → Nat} {R : xR → xH → Prop} {A σ τ : xS} {h0 ah : xH} {a : Nat}
theorem sv_i {σ : xS} (hI : MI σ) {w s : Nat} (hw : w < σ 3 0) (hs : s < σ 4 w) : sv σ (12 * w + s) ∧ (12 * w + s) / 12 = w ∧ (12 * w + s) % 12 = s := by
  have hW := hI.W
  have h4 := hI.w4 (w := w) (by omega)
  have e1 : (12 * w + s) / 12 = w := by omega
  have e2 : (12 * w + s) % 12 = s := by omega
  refine ⟨?_, e1, e2⟩
  unfold sv
  rw [e1, e2]
  exact ⟨hw, hs⟩
def tkC (τ τ' : xS) (u a : Nat) : Prop := τ' 30 u = 0 ∧ ∀ c i, ¬ (c = 30 ∧ i = u) → ¬ ((c = 17 ∨ c = 18) ∧ i = a) → τ' c i = τ c i
theorem sp_slay (hK : KI κ) (h : CR κ A σ τ h0 ah) (hI : MI σ) {w s p k : Nat} (hw : w < σ 3 0) (hs : s < σ 4 w) (hp : p < 4) (hk : k ≤ 20) (h6 : ¬ σ 8 (12 * w + s) = 6)
    (hR : ∀ A' τ' ah', CR κ A' (lay w p k σ s) τ' h0 ah' → tkC τ τ' (6 * (12 * w + s) + σ 8 (12 * w + s)) (12 * w + s) → (∀ k i, k ≠ 18 → k ≠ 19 → A' k i = A k i) → R (.inl none) ah') : xm κ 36 [.ref (A 16 (12 * w + s)), .ref (κ p), .int (nI k), .int (nI (σ 0 0))] ah R := by
  obtain ⟨hsv, e1, e2⟩ := sv_i hI hw hs
  have hl := sv_lt hI hsv
  have h8 := hI.w8 hl
  rw [en36, e36_0]
  refine ⟨by decide, by decide, fun x hx => ?_⟩
  have hx0 : xup ah x (.inr (2, [.null, .int 0, .int 0, .int 0, .int 0, .int 0])) x = some (.inr (2, [.null, .int 0, .int 0, .int 0, .int 0, .int 0])) := xup_self _ _ _
  have c2 := h.fresh hx (ccell κ p k (σ 0 0) 0 0 0)
  have hxx : xup ah x (ccell κ p k (σ 0 0) 0 0 0) x = some (ccell κ p k (σ 0 0) 0 0 0) := xup_self _ _ _
  have i1 := xis_of (c2.strip hsv)
  have i2 := xis_of hxx
  have kb100 := kb_le σ w (12 * w + s)
  have q35 := sp_keysBelow (R := R) hK c2 hI hsv
  rw [e1] at q35
  have fin : ∀ (c : Nat) (ah1 : xH), c = crk σ w (12 * w + s) p k → ah1 = xup ah x (ccell κ p k (σ 0 0) c 0 0) → xW (T36 κ) (xm κ) R (34, [some (.ref (A 16 (12 * w + s))), some (.ref (κ p)), some (.int (nI k)), some (.int (nI (σ 0 0))), some (.ref x)], [], ah1, 1, 170) := by
    intro c ah1 hcc hah
    subst hcc; subst hah
    have c3 := h.fresh hx (ccell κ p k (σ 0 0) (crk σ w (12 * w + s) p k) 0 0)
    have f1 : xfld (xup ah x (ccell κ p k (σ 0 0) (crk σ w (12 * w + s) p k) 0 0)) (A 16 (12 * w + s)) 8 1 = some (.ref (A 17 (12 * w + s))) := xfld_of (c3.strip hsv)
    have hLL := c3.coats hsv
    rw [e36_34, e36_35, f1, xo_some, e36_38, e36_40]
    refine ⟨⟨by decide, ⟨_, hLL.1⟩, by decide, by decide⟩, sp_ladd hLL (by omega) ⟨2, _, by decide, xup_self _ _ _⟩ (c3.obs hI hsv) (fun e' M ah' q1 q2 q3 q4 q5 q6 q7 => ?_)⟩
    show xW _ _ _ _
    rw [e36_43i, e36_44]
    refine hR _ _ _ (h.addC hI hw hs h6 hx q1 q2 q3 q4 q5 q6 q7) ⟨?_, fun c i n1 n2 => ?_⟩ (fun k i n1 n2 => ?_)
    · simp (disch := omega) only [su_ne, su_eq]
    · simp (disch := omega) only [su_ne]
    · rw [su_nr (fun q => n1 q.symm), su_nr (fun q => n2 q.symm)]
  rw [e36_3, e36_4, e36_5, e36_6, e36_7]
  refine ⟨⟨show (1 + 0 : Nat) ≤ 8 from by decide, trivial⟩, ?_⟩
  rw [sp_coatInit hx0, xup_xup]
  show xW _ _ _ _
  rw [e36_10, xk_i, e36_12, e36_14, e36_16, e36_17]
  refine ⟨⟨show (1 + (1 + 0) : Nat) ≤ 8 from by decide, ⟨_, c2.strip hsv⟩⟩, ?_⟩
  have q35' := sp_keysBelow (R := xK (xW (T36 κ) (xm κ) R) R 20 [some (.ref (A 16 (12 * w + s))), some (.ref (κ p)), some (.int (nI k)), some (.int (nI (σ 0 0))), some (.ref x)] [.ref x, .ref x] 1 170) hK c2 hI hsv
  rw [e1] at q35'
  refine q35'.mpr ?_
  show xW _ _ _ _
  rw [e36_20]
  refine ⟨⟨show (1 + 0 : Nat) ≤ 8 from by decide, ⟨_, hxx⟩⟩, (sp_bondsOn hK hxx hp hk (by omega)).mpr ?_⟩
  show xW _ _ _ _
  rw [e36_23]
  have f3 : (xfld (xup ah x (ccell κ p k (σ 0 0) 0 0 0)) x 2 3).isSome = true := by rw [xfld_of hxx]; rfl
  by_cases hb : shr p * k ≤ kb σ w (12 * w + s)
  · rw [xb_t hb]
    refine ⟨fun _ => ?_, fun q => absurd q (by decide)⟩
    rw [e36_30, e36_31]
    refine ⟨f3, ⟨rfl, rfl⟩, fin 0 _ ?_ ?_⟩
    · unfold crk; rw [if_neg (by omega)]
    · rw [xput_of hxx, xup_xup]; rfl
  · rw [xb_f hb]
    refine ⟨fun q => absurd rfl q, fun _ => ?_⟩
    rw [e36_26, e36_27, e36_31]
    refine ⟨f3, ⟨rfl, rfl⟩, fin 1 _ ?_ ?_⟩
    · unfold crk; rw [if_pos (by omega)]
    · rw [xput_of hxx, xup_xup]; rfl
theorem CR.rmC (h : CR κ A σ τ h0 ah) (hI : MI σ) (ha : sv σ a) (h8 : ¬ σ 8 a = 0) {ah' : xH} (hN : ¬ τ 18 a = 0)
    (h1 : ah' (A 17 a) = some (lcell (nI (τ 17 a) + 1) (A 18 a) (σ 8 a - 1))) (h2 : ah' (A 18 a) = some (rcell (τ 18 a) (σ 8 a - 1) (fun j => A 19 (6 * a + j)))) (hne : A 17 a ≠ A 18 a)
    (h3 : ∀ b, b ≠ A 17 a → b ≠ A 18 a → ah' b = ah b) : CR κ A (su σ 8 a (σ 8 a - 1)) (su τ 17 a (τ 17 a + 1)) h0 ah' := by
  have h6 := hI.w8 (sv_lt hI ha)
  have g2 := h.1.ladd (k := 17) (i := a) (e' := A 18 a) (ah' := ah') (show cU σ τ 17 a from ha) (Or.inl ⟨rfl, show cU σ τ 18 a from ⟨ha, hN⟩⟩) h1 h2 hne h3
  have lsv : ∀ b, sv (su σ 8 a (σ 8 a - 1)) b = sv σ b := fun b => sv_row (by decide)
  have eA : ∀ k i, su A 18 a (A 18 a) k i = A k i := fun k i => by
    by_cases e : k = 18 ∧ i = a
    · rw [e.1, e.2, su_eq]
    · rw [su_ne e]
  refine ⟨g2.cg (fun k' i' hu => ?_) (fun k' i' _ => (eA k' i').symm) (fun k' i' hu => ?_), ?_⟩
  · refine Or.inr ?_
    by_cases e19 : k' = 19
    · subst e19
      have q : sv (su σ 8 a (σ 8 a - 1)) (i' / 6) ∧ i' % 6 < su σ 8 a (σ 8 a - 1) 8 (i' / 6) := hu
      rw [lsv] at q
      refine ⟨q.1, ?_⟩
      have q2 := q.2
      by_cases ea : i' / 6 = a
      · rw [ea, su_eq] at q2
        rw [ea]
        omega
      · rw [su_ne (by omega)] at q2
        exact q2
    · unfold cU at hu ⊢
      split at hu <;> first | exact hu | (simp (disch := omega) only [su_nr, lsv] at hu ⊢ <;> first | exact hu | omega) | omega
  · unfold cu
    by_cases e17 : k' = 17 ∧ i' = a
    · obtain ⟨rfl, rfl⟩ := e17
      rw [if_pos ⟨rfl, rfl⟩]
      show lcell (nI (su τ 17 i' (τ 17 i' + 1) 17 i')) (rwA κ A (su τ 17 i' (τ 17 i' + 1)) 17 i') (su σ 8 i' (σ 8 i' - 1) 8 i') = _
      rw [su_eq, su_eq, rwA_ne (by simp (disch := omega) only [su_ne]; exact hN), nI_succ]
    · by_cases e18 : k' = 18 ∧ i' = a
      · obtain ⟨rfl, rfl⟩ := e18
        rw [if_neg (fun q => absurd q.1 (by decide)), if_pos ⟨rfl, rfl⟩]
        show rcell (su τ 17 i' (τ 17 i' + 1) 18 i') (su σ 8 i' (σ 8 i' - 1) 8 i') _ = _
        rw [su_eq, su_nr (by decide)]
      · rw [if_neg e17, if_neg e18]
        by_cases k17 : k' = 17
        · subst k17
          have ei : ¬ i' = a := fun q => e17 ⟨rfl, q⟩
          show lcell (nI (su τ 17 a (τ 17 a + 1) 17 i')) (rwA κ A (su τ 17 a (τ 17 a + 1)) 17 i') (su σ 8 a (σ 8 a - 1) 8 i') = lcell (nI (τ 17 i')) (rwA κ A τ 17 i') (σ 8 i')
          unfold rwA
          simp (disch := omega) only [su_ne]
        · by_cases k18 : k' = 18
          · subst k18
            have ei : ¬ i' = a := fun q => e18 ⟨rfl, q⟩
            show rcell (su τ 17 a (τ 17 a + 1) 18 i') (su σ 8 a (σ 8 a - 1) 8 i') (fun j => A 19 (6 * i' + j)) = rcell (τ 18 i') (σ 8 i') (fun j => A 19 (6 * i' + j))
            simp (disch := omega) only [su_ne]
          · rw [cC_rowT (rwTN_17 k17), cC_row (rwsN_8 ⟨k17, k18⟩)]
  · obtain ⟨w1, w2, w3, w4, w5, w6⟩ := h.2
    unfold CW
    simp (disch := omega) only [su_nr]
    refine ⟨w1, w2, w3, w4, w5, fun b hb => ?_⟩
    rw [lsv] at hb
    have := w6 b hb
    by_cases eb : b = a
    · subst eb
      rw [su_eq]
      exact this.imp (fun q => ⟨q.1, by omega⟩) (fun q => ⟨by omega, q.2⟩)
    · rw [su_ne (by omega)]
      exact this
theorem sp_strikeTop (h : CR κ A σ τ h0 ah) (hI : MI σ) (ha : sv σ a) (h8 : ¬ σ 8 a = 0)
    (hR : ∀ ah', CR κ A (su σ 8 a (σ 8 a - 1)) (su τ 17 a (τ 17 a + 1)) h0 ah' → R (.inl none) ah') : xm κ 37 [.ref (A 16 a)] ah R := by
  have h6 := hI.w8 (sv_lt hI ha)
  have f1 : xfld ah (A 16 a) 8 1 = some (.ref (A 17 a)) := xfld_of (h.strip ha)
  have hLL := h.coats ha
  have hx : xis ah (A 17 a) 1 = True := xis_of hLL.1
  have es : nI (σ 8 a) - 1 = nI (σ 8 a - 1) := lsu1 (by omega)
  simp (disch := omega) only [e37_0, e37_0n, e37_1, e37_4, e37_7, e37_8, e37_9, e37_12, e37_12n, e37_13, e37_16, e37_17, e37_18, en37, xKv, xK0, xKx, xKHv, xKH0, xk_none, xk_i, xk_f, xk_l, xk_r, xk_n, xc_i, xc_f, xc_l, xc_d, xc_r, xc_n, xo_some, List.map_cons, List.map_nil, List.sum_cons, List.sum_nil, xnzn, xpn0, xpn1, xpnb, xpnn, i10, i00, true_imp_iff, false_imp_iff, not_true_eq_false, not_false_eq_true, true_and, and_true, implies_true, xnz0, xnz1, xnzb, xfz0, xfz1, xfzb, Option.isSome_some, if_true, if_false, xbF, xbT, and_false, false_and, Nat.zero_le, Nat.reduceEqDiff, Nat.reduceLeDiff, Nat.reduceAdd, Nat.reduceSub, xiT, xiF, pk_mul, nI_add, Nat.add_sub_cancel, lad0, leq0, lle0, lge0, llt0, lgt0, leq1, lle1, lge1, llt1, lgt1, lad1, lsu1, leq2, lle2, lge2, llt2, lgt2, lmu2, lmv2, lad2, lsu2, ldi2, leq3, lle3, lge3, llt3, lgt3, lmu3, lmv3, lad3, lsu3, ldi3, leq4, lle4, lge4, llt4, lgt4, lmu4, lmv4, lad4, lsu4, ldi4, leq5, lle5, lge5, llt5, lgt5, lmu5, lmv5, lad5, lsu5, ldi5, leq6, lle6, lge6, llt6, lgt6, lmu6, lmv6, lad6, lsu6, ldi6, leq8, lle8, lge8, llt8, lgt8, lmu8, lmv8, lad8, lsu8, ldi8, leq9, lle9, lge9, llt9, lgt9, lmu9, lmv9, lad9, lsu9, ldi9, leq10, lle10, lge10, llt10, lgt10, lmu10, lmv10, lad10, lsu10, ldi10, leq12, lle12, lge12, llt12, lgt12, lmu12, lmv12, lad12, lsu12, ldi12, leq20, lle20, lge20, llt20, lgt20, lmu20, lmv20, lad20, lsu20, ldi20, leq25, lle25, lge25, llt25, lgt25, lmu25, lmv25, lad25, lsu25, ldi25, leq30, lle30, lge30, llt30, lgt30, lmu30, lmv30, lad30, lsu30, ldi30, leq48, lle48, lge48, llt48, lgt48, lmu48, lmv48, lad48, lsu48, ldi48, leq50, lle50, lge50, llt50, lgt50, lmu50, lmv50, lad50, lsu50, ldi50, leq99, lle99, lge99, llt99, lgt99, lmu99, lmv99, lad99, lsu99, ldi99, leq100, lle100, lge100, llt100, lgt100, lmu100, lmv100, lad100, lsu100, ldi100, leq2000, lle2000, lge2000, llt2000, lgt2000, lmu2000, lmv2000, lad2000, lsu2000, ldi2000, f1, hx, sp_lsize hLL.1, leF, es]
  rw [e37_19]
  refine ⟨⟨by decide, ⟨_, hLL.1⟩⟩, sp_lrem hLL h8 (fun ah' q1 q2 q3 q4 q5 => ?_)⟩
  show xW _ _ _ _
  rw [e37_22, e37_23]
  have eA : rwA κ A τ 17 a = A 18 a := rwA_ne q4
  rw [eA] at q1 q2 q3 q5
  exact hR ah' (h.rmC hI ha h8 q4 q1 q2 q3 q5)
end

