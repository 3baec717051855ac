/-! StringBuilder -/
def KS (κ : Nat → Nat) : Prop := (∀ p q, p < 7 → q < 7 → κ (10 + p) = κ (10 + q) → p = q) ∧ (∀ p q, p < 7 → q < 7 → κ (20 + p) = κ (20 + q) → p = q)
def Ext (h0 ah : xH) : Prop := ∀ a o, h0 a = some o → ah a = some o
def byf (f : Nat → Int32) : Prop := ∀ j, fits .byte (.int (f j)) = true
def BS (h0 ah : xH) (b v N n : Nat) (g : Nat → Nat) : Prop :=
  ah b = some (.inr (0, [.ref v, .int 0, .int 0, .int (nI n)])) ∧ (∃ f, ah v = some (.inl (2, N, .inl f)) ∧ (∀ j, j < n → f j = nI (g j)) ∧ byf f) ∧ n ≤ N ∧ (N = 16 ∨ N = 34) ∧ b ≠ v ∧ h0 b = none ∧ h0 v = none ∧ Ext h0 ah
theorem Ext.fr {h0 ah : xH} {x : Nat} (h : Ext h0 ah) (hx : ah x = none) : h0 x = none := by
  cases e : h0 x with
  | none => rfl
  | some o => rw [h x o e] at hx; cases hx
theorem Ext.up {h0 ah : xH} {x : Nat} {o : xO} (h : Ext h0 ah) (hx : h0 x = none) : Ext h0 (xup ah x o) := fun a p ha => by
  rw [xup_ne _ _ (fun e => by rw [e, hx] at ha; cases ha)]
  exact h a p ha
theorem CR.ext {κ : Nat → Nat} {A σ τ : xS} {h0 ah ah' : xH} (h : CR κ A σ τ h0 ah) (he : Ext ah ah') : CR κ A σ τ h0 ah' := by
  obtain ⟨⟨h1, h2, h3⟩, h4⟩ := h
  exact ⟨⟨fun k i hu => he _ _ (h1 k i hu), h2, fun a p ha => ⟨he _ _ (h3 a p ha).1, (h3 a p ha).2⟩⟩, h4⟩
theorem fby : ∀ c : Fin 128, fits .byte (.int (nI c.1)) = true ∧ vp_nar .byte (nI c.1) = nI c.1 ∧ (nI c.1).toInt8.toInt32 = nI c.1 ∧ ((nI c.1 &&& 255).toUInt32 % 65536).toInt32 = nI c.1 := by decide +kernel
theorem byf_u {f : Nat → Int32} {i c : Nat} (h : byf f) (hc : c < 128) : byf (upd f i (nI c)) := fun j => by
  by_cases e : j = i
  · subst e; rw [pk_us]; exact (fby ⟨c, hc⟩).1
  · rw [pk_un e]; exact h j
def xby (q j : Nat) : Nat := ((xByt.getD q []).getD j 0).toNatClampNeg
theorem xby_k : ∀ (q : Fin 7) (j : Fin 8), j.1 < xLen.getD q.1 0 → (xByt.getD q.1 []).getD j.1 0 = nI (xby q.1 j.1) ∧ xby q.1 j.1 < 128 := by decide +kernel
theorem xlen_k : ∀ q : Fin 7, xLen.getD q.1 0 ≤ 8 := by decide +kernel
theorem sh0 {N : Nat} (h : N = 16 ∨ N = 34) : nI N >>> ((0 : Int32) &&& 31) = nI N := by rcases h with rfl | rfl <;> decide +kernel
theorem shl0 {n : Nat} (h : n < 64) : nI n <<< ((0 : Int32) &&& 31) = nI n := by
  have : ∀ n : Fin 64, nI n.1 <<< ((0 : Int32) &&& 31) = nI n.1 := by decide +kernel
  exact this ⟨n, h⟩
theorem shr0' {n : Nat} (h : n < 64) : nI n >>> ((0 : Int32) &&& 31) = nI n := by
  have : ∀ n : Fin 64, nI n.1 >>> ((0 : Int32) &&& 31) = nI n.1 := by decide +kernel
  exact this ⟨n, h⟩
theorem subLe {a b : Nat} (ha : a < 2 ^ 30) (hb : b < 2 ^ 30) : (nI a - nI b ≤ 0) = (a ≤ b) := by
  apply propext
  rw [Int32.le_iff_toInt_le, pk_sub_toInt ha hb, show (0 : Int32).toInt = 0 from rfl]
  omega
section
variable {κ : Nat → Nat} {R : xR → xH → Prop} {h0 ah : xH} {b v N n : Nat} {g : Nat → Nat}
theorem exS (hS : KS κ) {P : Nat → Prop} {q : Nat} (hq : q < 7) : (∃ i, i < 7 ∧ κ (10 + q) = κ (10 + i) ∧ P i) = P q := by
  refine propext ⟨fun ⟨i, h1, h2, h3⟩ => ?_, fun h => ⟨q, hq, rfl, h⟩⟩
  rw [hS.1 q i hq h1 h2]
  exact h3
theorem exT (hS : KS κ) {P : Nat → Prop} {q : Nat} (hq : q < 7) : (∃ i, i < 7 ∧ κ (20 + q) = κ (20 + i) ∧ P i) = P q := by
  refine propext ⟨fun ⟨i, h1, h2, h3⟩ => ?_, fun h => ⟨q, hq, rfl, h⟩⟩
  rw [hS.2 q i hq h1 h2]
  exact h3
theorem exg {q : Nat} (hq : q < 7) : (∃ i, i < 7 ∧ κ (10 + q) = κ (10 + i)) = True := eq_true ⟨q, hq, rfl⟩
theorem sp_ens (h : BS h0 ah b v N n g) {m : Nat} (hm : m ≤ 34) (hR : ∀ v' N' ah', BS h0 ah' b v' N' n g → m ≤ N' → R (.inl none) ah') : xm κ 110 [.ref b, .int (nI m)] ah R := by
  obtain ⟨hb, ⟨f, hv, hf, hby⟩, hn, hN, hbv, hb0, hv0, he⟩ := id h
  have f0 : xfld ah b 0 0 = some (.ref v) := xfld_of hb
  have f1 : xfld ah b 0 1 = some (.int 0) := xfld_of hb
  have fl := xalen_i hv (by decide)
  have eN : Int32.ofNat N = nI N := rfl
  have hx0 : xis ah b 0 = True := xis_of hb
  by_cases hmN : m ≤ N
  · simp (disch := omega) only [en110, e110_0, e110_0n, e110_1, e110_4, e110_5, e110_5n, e110_6, e110_9, e110_10, e110_11, e110_12, e110_13, e110_14, e110_17, e110_17n, e110_18, e110_18n, e110_19, e110_22, e110_22n, e110_23, e110_24, e110_27, e110_27n, e110_28, e110_31, e110_32, e110_35, e110_38, xKv, xK0, xKx, xKHv, xKH0, xk_none, xk_i, xk_f, xk_l, xk_r, xk_n, xc_i, xc_f, xc_l, xc_d, xc_r, xc_n, xo_some, List.map_cons, List.map_nil, List.sum_cons, List.sum_nil, xnzn, xpn0, xpn1, xpnb, xpnn, i10, i00, true_imp_iff, false_imp_iff, not_true_eq_false, not_false_eq_true, true_and, and_true, implies_true, xnz0, xnz1, xnzb, xfz0, xfz1, xfzb, Option.isSome_some, if_true, if_false, xbF, xbT, and_false, false_and, Nat.zero_le, Nat.reduceEqDiff, Nat.reduceLeDiff, Nat.reduceAdd, Nat.reduceSub, xiT, xiF, pk_mul, nI_add, Nat.add_sub_cancel, lad0, leq0, lle0, lge0, llt0, lgt0, leq1, lle1, lge1, llt1, lgt1, lad1, lsu1, leq2, lle2, lge2, llt2, lgt2, lmu2, lmv2, lad2, lsu2, ldi2, leq3, lle3, lge3, llt3, lgt3, lmu3, lmv3, lad3, lsu3, ldi3, leq4, lle4, lge4, llt4, lgt4, lmu4, lmv4, lad4, lsu4, ldi4, leq5, lle5, lge5, llt5, lgt5, lmu5, lmv5, lad5, lsu5, ldi5, leq6, lle6, lge6, llt6, lgt6, lmu6, lmv6, lad6, lsu6, ldi6, leq8, lle8, lge8, llt8, lgt8, lmu8, lmv8, lad8, lsu8, ldi8, leq9, lle9, lge9, llt9, lgt9, lmu9, lmv9, lad9, lsu9, ldi9, leq10, lle10, lge10, llt10, lgt10, lmu10, lmv10, lad10, lsu10, ldi10, leq12, lle12, lge12, llt12, lgt12, lmu12, lmv12, lad12, lsu12, ldi12, leq20, lle20, lge20, llt20, lgt20, lmu20, lmv20, lad20, lsu20, ldi20, leq25, lle25, lge25, llt25, lgt25, lmu25, lmv25, lad25, lsu25, ldi25, leq30, lle30, lge30, llt30, lgt30, lmu30, lmv30, lad30, lsu30, ldi30, leq48, lle48, lge48, llt48, lgt48, lmu48, lmv48, lad48, lsu48, ldi48, leq50, lle50, lge50, llt50, lgt50, lmu50, lmv50, lad50, lsu50, ldi50, leq99, lle99, lge99, llt99, lgt99, lmu99, lmv99, lad99, lsu99, ldi99, leq100, lle100, lge100, llt100, lgt100, lmu100, lmv100, lad100, lsu100, ldi100, leq2000, lle2000, lge2000, llt2000, lgt2000, lmu2000, lmv2000, lad2000, lsu2000, ldi2000, f0, f1, fl, eN, sh0 hN, subLe, hmN]
    exact hR v N ah h hmN
  · have hN16 : N = 16 := by omega
    subst hN16
    rw [en110]
    simp (disch := omega) only [e110_0, e110_0n, e110_1, e110_4, e110_5, e110_5n, e110_6, e110_9, e110_10, e110_11, e110_12, e110_13, e110_14, e110_17, e110_17n, e110_18, e110_18n, e110_19, e110_22, e110_22n, e110_23, xKv, xK0, xKx, xKHv, xKH0, xk_none, xk_i, xk_f, xk_l, xk_r, xk_n, xc_i, xc_f, xc_l, xc_d, xc_r, xc_n, xo_some, List.map_cons, List.map_nil, List.sum_cons, List.sum_nil, xnzn, xpn0, xpn1, xpnb, xpnn, i10, i00, true_imp_iff, false_imp_iff, not_true_eq_false, not_false_eq_true, true_and, and_true, implies_true, xnz0, xnz1, xnzb, xfz0, xfz1, xfzb, Option.isSome_some, if_true, if_false, xbF, xbT, and_false, false_and, Nat.zero_le, Nat.reduceEqDiff, Nat.reduceLeDiff, Nat.reduceAdd, Nat.reduceSub, xiT, xiF, pk_mul, nI_add, Nat.add_sub_cancel, lad0, leq0, lle0, lge0, llt0, lgt0, leq1, lle1, lge1, llt1, lgt1, lad1, lsu1, leq2, lle2, lge2, llt2, lgt2, lmu2, lmv2, lad2, lsu2, ldi2, leq3, lle3, lge3, llt3, lgt3, lmu3, lmv3, lad3, lsu3, ldi3, leq4, lle4, lge4, llt4, lgt4, lmu4, lmv4, lad4, lsu4, ldi4, leq5, lle5, lge5, llt5, lgt5, lmu5, lmv5, lad5, lsu5, ldi5, leq6, lle6, lge6, llt6, lgt6, lmu6, lmv6, lad6, lsu6, ldi6, leq8, lle8, lge8, llt8, lgt8, lmu8, lmv8, lad8, lsu8, ldi8, leq9, lle9, lge9, llt9, lgt9, lmu9, lmv9, lad9, lsu9, ldi9, leq10, lle10, lge10, llt10, lgt10, lmu10, lmv10, lad10, lsu10, ldi10, leq12, lle12, lge12, llt12, lgt12, lmu12, lmv12, lad12, lsu12, ldi12, leq20, lle20, lge20, llt20, lgt20, lmu20, lmv20, lad20, lsu20, ldi20, leq25, lle25, lge25, llt25, lgt25, lmu25, lmv25, lad25, lsu25, ldi25, leq30, lle30, lge30, llt30, lgt30, lmu30, lmv30, lad30, lsu30, ldi30, leq48, lle48, lge48, llt48, lgt48, lmu48, lmv48, lad48, lsu48, ldi48, leq50, lle50, lge50, llt50, lgt50, lmu50, lmv50, lad50, lsu50, ldi50, leq99, lle99, lge99, llt99, lgt99, lmu99, lmv99, lad99, lsu99, ldi99, leq100, lle100, lge100, llt100, lgt100, lmu100, lmv100, lad100, lsu100, ldi100, leq2000, lle2000, lge2000, llt2000, lgt2000, lmu2000, lmv2000, lad2000, lsu2000, ldi2000, f0, f1, fl, eN, sh0 (Or.inl rfl : (16 : Nat) = 16 ∨ (16 : Nat) = 34), subLe, hmN]
    rw [e110_24]
    refine ⟨⟨show (1 + (1 + 0) : Nat) ≤ 8 from by decide, ⟨_, hb⟩⟩, ?_⟩
    have e18 : nI 16 + (2 : Int32) <<< ((0 : Int32) &&& 31) = nI 18 := by decide +kernel
    have eg : nI m - nI 16 = nI (m - 16) := pk_sub (by omega)
    have es : nI 34 >>> ((0 : Int32) &&& 31) = nI 34 := by decide +kernel
    have em : (if nI (m - 16) < nI 18 then nI 18 else nI (m - 16)) = nI 18 := by
      rw [imax (by omega) (by decide), Nat.max_eq_right (by omega)]
    have ea : nI 16 + nI 18 = nI 34 := by decide
    have l1 : (nI 34 ≤ 0) = False := by decide
    have l2 : ((2147483639 : Int32) < nI 34) = False := by decide
    have l3 : (nI 34 = 2147483647) = False := by decide
    rw [en115]
    simp (disch := omega) only [en115, e115_0, e115_0n, e115_1, e115_4, e115_5, e115_6, e115_7, e115_7n, e115_8, e115_11, e115_12, e115_13, e115_14, e115_15, e115_16, e115_18, e115_19, e115_21, e115_22, e115_23, e115_23n, e115_24, e115_27, e115_28, e115_29, e115_32, e115_34, e115_36, e115_38, e115_44, e115_44i, e115_51, e115_53, e115_53n, e115_54, e115_57, e115_58, xKv, xK0, xKx, xKHv, xKH0, xk_none, xk_i, xk_f, xk_l, xk_r, xk_n, xc_i, xc_f, xc_l, xc_d, xc_r, xc_n, xo_some, List.map_cons, List.map_nil, List.sum_cons, List.sum_nil, xnzn, xpn0, xpn1, xpnb, xpnn, i10, i00, true_imp_iff, false_imp_iff, not_true_eq_false, not_false_eq_true, true_and, and_true, implies_true, xnz0, xnz1, xnzb, xfz0, xfz1, xfzb, Option.isSome_some, if_true, if_false, xbF, xbT, and_false, false_and, Nat.zero_le, Nat.reduceEqDiff, Nat.reduceLeDiff, Nat.reduceAdd, Nat.reduceSub, xiT, xiF, pk_mul, nI_add, Nat.add_sub_cancel, lad0, leq0, lle0, lge0, llt0, lgt0, leq1, lle1, lge1, llt1, lgt1, lad1, lsu1, leq2, lle2, lge2, llt2, lgt2, lmu2, lmv2, lad2, lsu2, ldi2, leq3, lle3, lge3, llt3, lgt3, lmu3, lmv3, lad3, lsu3, ldi3, leq4, lle4, lge4, llt4, lgt4, lmu4, lmv4, lad4, lsu4, ldi4, leq5, lle5, lge5, llt5, lgt5, lmu5, lmv5, lad5, lsu5, ldi5, leq6, lle6, lge6, llt6, lgt6, lmu6, lmv6, lad6, lsu6, ldi6, leq8, lle8, lge8, llt8, lgt8, lmu8, lmv8, lad8, lsu8, ldi8, leq9, lle9, lge9, llt9, lgt9, lmu9, lmv9, lad9, lsu9, ldi9, leq10, lle10, lge10, llt10, lgt10, lmu10, lmv10, lad10, lsu10, ldi10, leq12, lle12, lge12, llt12, lgt12, lmu12, lmv12, lad12, lsu12, ldi12, leq20, lle20, lge20, llt20, lgt20, lmu20, lmv20, lad20, lsu20, ldi20, leq25, lle25, lge25, llt25, lgt25, lmu25, lmv25, lad25, lsu25, ldi25, leq30, lle30, lge30, llt30, lgt30, lmu30, lmv30, lad30, lsu30, ldi30, leq48, lle48, lge48, llt48, lgt48, lmu48, lmv48, lad48, lsu48, ldi48, leq50, lle50, lge50, llt50, lgt50, lmu50, lmv50, lad50, lsu50, ldi50, leq99, lle99, lge99, llt99, lgt99, lmu99, lmv99, lad99, lsu99, ldi99, leq100, lle100, lge100, llt100, lgt100, lmu100, lmv100, lad100, lsu100, ldi100, leq2000, lle2000, lge2000, llt2000, lgt2000, lmu2000, lmv2000, lad2000, lsu2000, ldi2000, f0, f1, fl, eN, shl0, eg, e18, en122, e122_0, e122_1, e122_2, e122_3, e122_6, e122_7, e122_8, e122_9, e122_10, e122_13, e122_14, e122_16, e122_19, e122_20, e122_21, e122_22, e122_26, em, ea, l1, l2, l3, es]
    have e34 : (nI 34) <<< ((0 : Int32) &&& 31) = nI 34 := by decide +kernel
    simp (disch := omega) only [e110_27, e110_27n, e110_28, e110_31, xKv, xK0, xKx, xKHv, xKH0, xk_none, xk_i, xk_f, xk_l, xk_r, xk_n, xc_i, xc_f, xc_l, xc_d, xc_r, xc_n, xo_some, List.map_cons, List.map_nil, List.sum_cons, List.sum_nil, xnzn, xpn0, xpn1, xpnb, xpnn, i10, i00, true_imp_iff, false_imp_iff, not_true_eq_false, not_false_eq_true, true_and, and_true, implies_true, xnz0, xnz1, xnzb, xfz0, xfz1, xfzb, Option.isSome_some, if_true, if_false, xbF, xbT, and_false, false_and, Nat.zero_le, Nat.reduceEqDiff, Nat.reduceLeDiff, Nat.reduceAdd, Nat.reduceSub, xiT, xiF, f1, e34]
    rw [e110_32]
    refine ⟨⟨show (1 + 0 : Nat) ≤ 8 from by decide, trivial, by decide, by decide⟩, ?_⟩
    have n34 : (nI 34 = nI 16) = False := by decide
    rw [en121]
    simp (disch := omega) only [e121_0, e121_1, e121_1n, e121_2, e121_3, e121_6, e121_6n, e121_13, e121_13n, e121_14, xKv, xK0, xKx, xKHv, xKH0, xk_none, xk_i, xk_f, xk_l, xk_r, xk_n, xc_i, xc_f, xc_l, xc_d, xc_r, xc_n, xo_some, List.map_cons, List.map_nil, List.sum_cons, List.sum_nil, xnzn, xpn0, xpn1, xpnb, xpnn, i10, i00, true_imp_iff, false_imp_iff, not_true_eq_false, not_false_eq_true, true_and, and_true, implies_true, xnz0, xnz1, xnzb, xfz0, xfz1, xfzb, Option.isSome_some, if_true, if_false, xbF, xbT, and_false, false_and, Nat.zero_le, Nat.reduceEqDiff, Nat.reduceLeDiff, Nat.reduceAdd, Nat.reduceSub, xiT, xiF, pk_mul, nI_add, Nat.add_sub_cancel, lad0, leq0, lle0, lge0, llt0, lgt0, leq1, lle1, lge1, llt1, lgt1, lad1, lsu1, leq2, lle2, lge2, llt2, lgt2, lmu2, lmv2, lad2, lsu2, ldi2, leq3, lle3, lge3, llt3, lgt3, lmu3, lmv3, lad3, lsu3, ldi3, leq4, lle4, lge4, llt4, lgt4, lmu4, lmv4, lad4, lsu4, ldi4, leq5, lle5, lge5, llt5, lgt5, lmu5, lmv5, lad5, lsu5, ldi5, leq6, lle6, lge6, llt6, lgt6, lmu6, lmv6, lad6, lsu6, ldi6, leq8, lle8, lge8, llt8, lgt8, lmu8, lmv8, lad8, lsu8, ldi8, leq9, lle9, lge9, llt9, lgt9, lmu9, lmv9, lad9, lsu9, ldi9, leq10, lle10, lge10, llt10, lgt10, lmu10, lmv10, lad10, lsu10, ldi10, leq12, lle12, lge12, llt12, lgt12, lmu12, lmv12, lad12, lsu12, ldi12, leq20, lle20, lge20, llt20, lgt20, lmu20, lmv20, lad20, lsu20, ldi20, leq25, lle25, lge25, llt25, lgt25, lmu25, lmv25, lad25, lsu25, ldi25, leq30, lle30, lge30, llt30, lgt30, lmu30, lmv30, lad30, lsu30, ldi30, leq48, lle48, lge48, llt48, lgt48, lmu48, lmv48, lad48, lsu48, ldi48, leq50, lle50, lge50, llt50, lgt50, lmu50, lmv50, lad50, lsu50, ldi50, leq99, lle99, lge99, llt99, lgt99, lmu99, lmv99, lad99, lsu99, ldi99, leq100, lle100, lge100, llt100, lgt100, lmu100, lmv100, lad100, lsu100, ldi100, leq2000, lle2000, lge2000, llt2000, lgt2000, lmu2000, lmv2000, lad2000, lsu2000, ldi2000, fl, eN, n34]
    rw [e121_15, nI_cl (by decide)]
    refine ⟨⟨nI_pos (by decide), by decide⟩, by decide, by decide, fun x hx => ?_⟩
    have hxv : v ≠ x := xis_ne hv hx
    have hxb : b ≠ x := xis_ne hb hx
    have hv1 : xup ah x (.inl (2, 34, .inl fun _ => 0)) v = some (.inl (2, 16, .inl f)) := by rw [xup_ne _ _ hxv]; exact hv
    have fl1 := xalen_i hv1 (by decide)
    have q1 := xai_of hv1
    have q2 : xai (xup ah x (.inl (2, 34, .inl fun _ => 0))) x 2 = some (34, fun _ => 0) := xai_of (xup_self _ _ _)
    have emin : (if nI 34 < nI 16 then nI 34 else nI 16) = nI 16 := by decide
    rw [e121_17, xk_i, e121_18, e121_19, e121_20, e121_21, e121_22, e121_23, fl1, xo_some, e121_24, e121_25]
    refine ⟨show (1 + (1 + (1 + (1 + 0))) : Nat) ≤ 8 from by decide, ?_⟩
    rw [eN, emin, e121_28, q1, xo_some, q2, xo_some, nI_cl (by decide)]
    refine ⟨⟨by decide, by decide, nI_pos (by decide)⟩, ⟨show (0 : Int32).toNatClampNeg + 16 ≤ 16 from by decide, show (0 : Int32).toNatClampNeg + 16 ≤ 34 from by decide⟩, fun i _ => hby _, ?_⟩
    rw [e121_31, e121_32, xup_xup]
    have e00 : (0 : Int32).toNatClampNeg = 0 := by decide
    rw [e00]
    have hb2 : xup ah x (.inl (2, 34, .inl (va_cpy f (fun _ => 0) 0 0 16))) b = some (.inr (0, [.ref v, .int 0, .int 0, .int (nI n)])) := by rw [xup_ne _ _ hxb]; exact hb
    show xW _ _ _ _
    rw [e110_35]
    refine ⟨by rw [xfld_of hb2]; rfl, ?_⟩
    rw [e110_38, xput_of hb2]
    have h0x := he.fr hx
    refine hR x 34 _ ⟨xup_self _ _ _, ⟨va_cpy f (fun _ => 0) 0 0 16, by rw [xup_ne _ _ (fun q => hxb q.symm), xup_self], fun j hj => ?_, fun j => ?_⟩, by omega, Or.inr rfl, hxb, hb0, h0x, ?_⟩ hm
    · rw [sb_cpy0 (by omega)]
      exact hf j hj
    · by_cases hj : j < 16
      · rw [sb_cpy0 hj]; exact hby j
      · rw [pk_cpy_out (Or.inr (by omega))]; rfl
    · exact (he.up h0x).up hb0
end

