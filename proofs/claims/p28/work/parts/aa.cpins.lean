/-! the class's calls: pins -/
theorem cnt_sub {P Q : Nat → Prop} : ∀ n, (∀ i, i < n → P i → Q i) → cnt P n ≤ cnt Q n := by
  intro n
  induction n with
  | zero => intro _; exact Nat.le_refl 0
  | succ n ih =>
    intro h
    have h1 := ih (fun i hi => h i (by omega))
    show cnt P n + xi (P n) 1 0 ≤ cnt Q n + xi (Q n) 1 0
    by_cases q : P n
    · rw [xi_t q, xi_t (h n (by omega) q)]; omega
    · rw [xi_f q]; omega
theorem cnt_lt {P Q : Nat → Prop} {c : Nat} (hq : Q c) (hp : ¬ P c) : ∀ n, c < n → (∀ i, i < n → P i → Q i) → cnt P n + 1 ≤ cnt Q n := by
  intro n
  induction n with
  | zero => intro h; omega
  | succ n ih =>
    intro hc h
    show cnt P n + xi (P n) 1 0 + 1 ≤ cnt Q n + xi (Q n) 1 0
    by_cases e : c = n
    · subst e
      have h1 := cnt_sub c (fun i hi => h i (by omega))
      rw [xi_f hp, xi_t hq]
      omega
    · have h1 := ih (by omega) (fun i hi => h i (by omega))
      by_cases q : P n
      · rw [xi_t q, xi_t (h n (by omega) q)]; omega
      · rw [xi_f q]; omega
def L48 (x : Int64) (c : Nat) : Prop := c < 48 ∧ bt x c
def fld (x f : Int64) : Int64 := f ||| (bsd f &&& x)
def clo (x f : Int64) : Prop := ∀ b c, b < 48 → c < 48 → bt f b → besd b c → bt x c → bt f c
section
variable {κ : Nat → Nat} {R : xR → xH → Prop} {A σ τ : xS} {h0 ah : xH}
def FV (x : Int64) (a t : Nat) (f : Int64) : Prop := (∀ c, c < 64 → bt f c → c < 48 ∧ Rch (L48 x) a c) ∧ bt f a ∧ (clo x f ∨ t + 1 ≤ cnt (bt f) 48)
theorem FV_step {x f : Int64} {a t : Nat} (hx : ∀ c, c < 64 → bt x c → c < 48) (h : FV x a t f) : FV x a (t + 1) (fld x f) := by
  obtain ⟨h1, h2, h3⟩ := h
  have hf : ∀ c, c < 64 → bt f c → c < 48 := fun c hc q => (h1 c hc q).1
  have hb : ∀ c, c < 64 → (bt (fld x f) c ↔ bt f c ∨ (c < 48 ∧ (∃ b, b < 48 ∧ bt f b ∧ besd b c) ∧ bt x c)) := fun c hc => by
    unfold fld
    rw [bt_or, bt_and, bt_bsd hf hc]
    exact or_congr Iff.rfl ⟨fun q => ⟨q.1.1, q.1.2, q.2⟩, fun q => ⟨⟨q.1, q.2.1⟩, q.2.2⟩⟩
  refine ⟨fun c hc q => ?_, (bt_or.mpr (Or.inl h2)), ?_⟩
  · rcases (hb c hc).mp q with q | ⟨q1, ⟨b, b1, b2, b3⟩, q2⟩
    · exact h1 c hc q
    · exact ⟨q1, Rch.step (h1 b (by omega) b2).2 b3 ⟨q1, q2⟩⟩
  · by_cases hclo : clo x f
    · refine Or.inl ?_
      have e : ∀ c, c < 64 → (bt (fld x f) c ↔ bt f c) := fun c hc => (hb c hc).trans ⟨fun q => q.elim id (fun q => by
        obtain ⟨q1, ⟨b, b1, b2, b3⟩, q2⟩ := q
        exact hclo b c b1 q1 b2 b3 q2), Or.inl⟩
      have e2 : fld x f = f := bt_ext e
      rw [e2]
      exact hclo
    · refine Or.inr ?_
      have h3' := h3.elim (fun q => absurd q hclo) id
      obtain ⟨b, c, b1, c1, b2, b3, c2, c3⟩ : ∃ b c, b < 48 ∧ c < 48 ∧ bt f b ∧ besd b c ∧ bt x c ∧ ¬ bt f c := Classical.byContradiction (fun q => hclo (fun b c b1 c1 b2 b3 c2 => Classical.byContradiction (fun c3 => q ⟨b, c, b1, c1, b2, b3, c2, c3⟩)))
      have := cnt_lt (P := bt f) (Q := bt (fld x f)) ((hb c (by omega)).mpr (Or.inr ⟨c1, ⟨b, b1, b2, b3⟩, c2⟩)) c3 48 c1 (fun i hi q => (hb i (by omega)).mpr (Or.inl q))
      omega
theorem FV_end {x f : Int64} {a : Nat} (ha : a < 48) (h : FV x a 48 f) : ∀ c, c < 64 → (bt f c ↔ c < 48 ∧ Rch (L48 x) a c) := by
  obtain ⟨h1, h2, h3⟩ := h
  have hclo : clo x f := h3.elim id (fun q => by
    have := cnt_le (bt f) 48
    omega)
  intro c hc
  refine ⟨h1 c hc, fun q => ?_⟩
  have : c < 48 ∧ bt f c := q.2 (fun c => c < 48 ∧ bt f c) ⟨ha, h2⟩ (fun b c ih hbs hl => ⟨hl.1, hclo b c ih.1 hl.1 ih.2 hbs hl.2⟩)
  exact this.2
theorem lp_fa {x : Int64} {a : Nat} (hx : ∀ c, c < 64 → bt x c → c < 48) (hX : ∀ f, FV x a 48 f → R (.inl (some (.long f))) ah) : ∀ (n t : Nat) (f : Int64), t + n = 48 → FV x a t f →
    xW (T88 κ) (xm κ) R (9, [some (.int (nI a)), some (.long x), none, some (.long f), none, some (.int (nI t))], [], ah, 0, 0) := by
  intro n
  induction n with
  | zero =>
    intro t f ht hF
    have ht' : t = 48 := by omega
    subst ht'
    rw [e88_9]
    simp (disch := omega) only [e88_11, e88_13, e88_16, e88_17, e88_18, e88_19, e88_22, e88_23, e88_24, e88_27, e88_28, e88_29, e88_30, e88_31, e88_34, e88_37, e88_38, xKv, xK0, xKx, xKHv, xKH0, xk_none, xk_i, xk_f, xk_l, xk_r, xk_n, xc_i, xc_f, xc_l, xc_d, xc_r, xc_n, xo_some, List.map_cons, List.map_nil, List.sum_cons, List.sum_nil, xnzn, xpn0, xpn1, xpnb, xpnn, i10, i00, true_imp_iff, false_imp_iff, not_true_eq_false, not_false_eq_true, true_and, and_true, implies_true, xnz0, xnz1, xnzb, xfz0, xfz1, xfzb, Option.isSome_some, if_true, if_false, xbF, xbT, and_false, false_and, Nat.zero_le, Nat.reduceEqDiff, Nat.reduceLeDiff, Nat.reduceAdd, Nat.reduceSub, xiT, xiF, pk_mul, nI_add, Nat.add_sub_cancel, lad0, leq0, lle0, lge0, llt0, lgt0, leq1, lle1, lge1, llt1, lgt1, lad1, lsu1, leq2, lle2, lge2, llt2, lgt2, lmu2, lmv2, lad2, lsu2, ldi2, leq3, lle3, lge3, llt3, lgt3, lmu3, lmv3, lad3, lsu3, ldi3, leq4, lle4, lge4, llt4, lgt4, lmu4, lmv4, lad4, lsu4, ldi4, leq5, lle5, lge5, llt5, lgt5, lmu5, lmv5, lad5, lsu5, ldi5, leq6, lle6, lge6, llt6, lgt6, lmu6, lmv6, lad6, lsu6, ldi6, leq8, lle8, lge8, llt8, lgt8, lmu8, lmv8, lad8, lsu8, ldi8, leq9, lle9, lge9, llt9, lgt9, lmu9, lmv9, lad9, lsu9, ldi9, leq10, lle10, lge10, llt10, lgt10, lmu10, lmv10, lad10, lsu10, ldi10, leq12, lle12, lge12, llt12, lgt12, lmu12, lmv12, lad12, lsu12, ldi12, leq20, lle20, lge20, llt20, lgt20, lmu20, lmv20, lad20, lsu20, ldi20, leq25, lle25, lge25, llt25, lgt25, lmu25, lmv25, lad25, lsu25, ldi25, leq30, lle30, lge30, llt30, lgt30, lmu30, lmv30, lad30, lsu30, ldi30, leq48, lle48, lge48, llt48, lgt48, lmu48, lmv48, lad48, lsu48, ldi48, leq50, lle50, lge50, llt50, lgt50, lmu50, lmv50, lad50, lsu50, ldi50, leq99, lle99, lge99, llt99, lgt99, lmu99, lmv99, lad99, lsu99, ldi99, leq100, lle100, lge100, llt100, lgt100, lmu100, lmv100, lad100, lsu100, ldi100, leq2000, lle2000, lge2000, llt2000, lgt2000, lmu2000, lmv2000, lad2000, lsu2000, ldi2000, Nat.le_refl]
    exact hX f hF
  | succ n ih =>
    intro t f ht hF
    have hz : (f = 0) = False := eq_false (fun q => bt_0 (c := a) (by rw [← q]; exact hF.2.1))
    have st := ih (t + 1) _ (by omega) (FV_step hx hF)
    have ef : f ||| (bsd f &&& x) = fld x f := rfl
    rw [e88_9]
    simp (disch := omega) only [e88_11, e88_13, e88_16, e88_17, e88_18, e88_19, e88_22, e88_23, e88_24, e88_27, e88_28, e88_29, e88_30, e88_31, e88_34, xKv, xK0, xKx, xKHv, xKH0, xk_none, xk_i, xk_f, xk_l, xk_r, xk_n, xc_i, xc_f, xc_l, xc_d, xc_r, xc_n, xo_some, List.map_cons, List.map_nil, List.sum_cons, List.sum_nil, xnzn, xpn0, xpn1, xpnb, xpnn, i10, i00, true_imp_iff, false_imp_iff, not_true_eq_false, not_false_eq_true, true_and, and_true, implies_true, xnz0, xnz1, xnzb, xfz0, xfz1, xfzb, Option.isSome_some, if_true, if_false, xbF, xbT, and_false, false_and, Nat.zero_le, Nat.reduceEqDiff, Nat.reduceLeDiff, Nat.reduceAdd, Nat.reduceSub, xiT, xiF, pk_mul, nI_add, Nat.add_sub_cancel, lad0, leq0, lle0, lge0, llt0, lgt0, leq1, lle1, lge1, llt1, lgt1, lad1, lsu1, leq2, lle2, lge2, llt2, lgt2, lmu2, lmv2, lad2, lsu2, ldi2, leq3, lle3, lge3, llt3, lgt3, lmu3, lmv3, lad3, lsu3, ldi3, leq4, lle4, lge4, llt4, lgt4, lmu4, lmv4, lad4, lsu4, ldi4, leq5, lle5, lge5, llt5, lgt5, lmu5, lmv5, lad5, lsu5, ldi5, leq6, lle6, lge6, llt6, lgt6, lmu6, lmv6, lad6, lsu6, ldi6, leq8, lle8, lge8, llt8, lgt8, lmu8, lmv8, lad8, lsu8, ldi8, leq9, lle9, lge9, llt9, lgt9, lmu9, lmv9, lad9, lsu9, ldi9, leq10, lle10, lge10, llt10, lgt10, lmu10, lmv10, lad10, lsu10, ldi10, leq12, lle12, lge12, llt12, lgt12, lmu12, lmv12, lad12, lsu12, ldi12, leq20, lle20, lge20, llt20, lgt20, lmu20, lmv20, lad20, lsu20, ldi20, leq25, lle25, lge25, llt25, lgt25, lmu25, lmv25, lad25, lsu25, ldi25, leq30, lle30, lge30, llt30, lgt30, lmu30, lmv30, lad30, lsu30, ldi30, leq48, lle48, lge48, llt48, lgt48, lmu48, lmv48, lad48, lsu48, ldi48, leq50, lle50, lge50, llt50, lgt50, lmu50, lmv50, lad50, lsu50, ldi50, leq99, lle99, lge99, llt99, lgt99, lmu99, lmv99, lad99, lsu99, ldi99, leq100, lle100, lge100, llt100, lgt100, lmu100, lmv100, lad100, lsu100, ldi100, leq2000, lle2000, lge2000, llt2000, lgt2000, lmu2000, lmv2000, lad2000, lsu2000, ldi2000, leF, lg_cmp_eq, hz, sp_beside, ef]
    exact st
theorem sp_fa1 {x : Int64} {a : Nat} (ha : a < 48) (hx : ∀ c, c < 64 → bt x c → c < 48) (hb : bt x a) (hX : ∀ f, (∀ c, c < 64 → (bt f c ↔ c < 48 ∧ Rch (L48 x) a c)) → R (.inl (some (.long f))) ah) : xm κ 88 [.int (nI a), .long x] ah R := by
  have hF : FV x a 0 (x &&& (1 : Int64) <<< ((nI a).toInt64 &&& 63)) := by
    have hbb : ∀ c, bt (x &&& (1 : Int64) <<< ((nI a).toInt64 &&& 63)) c ↔ c = a := fun c => by
      rw [bt_and, bt_1 ha]
      exact ⟨fun q => q.2, fun q => ⟨by rw [q]; exact hb, q⟩⟩
    refine ⟨fun c hc q => ?_, (hbb a).mpr rfl, Or.inr ?_⟩
    · rw [(hbb c).mp q]
      exact ⟨ha, Rch.rfl⟩
    · have := cnt_lt (P := fun _ => False) (Q := bt (x &&& (1 : Int64) <<< ((nI a).toInt64 &&& 63))) ((hbb a).mpr rfl) id 48 ha (fun i _ q => q.elim)
      omega
  rw [en88]
  simp (disch := omega) only [e88_0, e88_1, e88_2, e88_3, e88_4, e88_5, e88_6, e88_7, xKv, xK0, xKx, xKHv, xKH0, xk_none, xk_i, xk_f, xk_l, xk_r, xk_n, xc_i, xc_f, xc_l, xc_d, xc_r, xc_n, xo_some, List.map_cons, List.map_nil, List.sum_cons, List.sum_nil, xnzn, xpn0, xpn1, xpnb, xpnn, i10, i00, true_imp_iff, false_imp_iff, not_true_eq_false, not_false_eq_true, true_and, and_true, implies_true, xnz0, xnz1, xnzb, xfz0, xfz1, xfzb, Option.isSome_some, if_true, if_false, xbF, xbT, and_false, false_and, Nat.zero_le, Nat.reduceEqDiff, Nat.reduceLeDiff, Nat.reduceAdd, Nat.reduceSub, xiT, xiF, pk_mul, nI_add, Nat.add_sub_cancel, lad0, leq0, lle0, lge0, llt0, lgt0, leq1, lle1, lge1, llt1, lgt1, lad1, lsu1, leq2, lle2, lge2, llt2, lgt2, lmu2, lmv2, lad2, lsu2, ldi2, leq3, lle3, lge3, llt3, lgt3, lmu3, lmv3, lad3, lsu3, ldi3, leq4, lle4, lge4, llt4, lgt4, lmu4, lmv4, lad4, lsu4, ldi4, leq5, lle5, lge5, llt5, lgt5, lmu5, lmv5, lad5, lsu5, ldi5, leq6, lle6, lge6, llt6, lgt6, lmu6, lmv6, lad6, lsu6, ldi6, leq8, lle8, lge8, llt8, lgt8, lmu8, lmv8, lad8, lsu8, ldi8, leq9, lle9, lge9, llt9, lgt9, lmu9, lmv9, lad9, lsu9, ldi9, leq10, lle10, lge10, llt10, lgt10, lmu10, lmv10, lad10, lsu10, ldi10, leq12, lle12, lge12, llt12, lgt12, lmu12, lmv12, lad12, lsu12, ldi12, leq20, lle20, lge20, llt20, lgt20, lmu20, lmv20, lad20, lsu20, ldi20, leq25, lle25, lge25, llt25, lgt25, lmu25, lmv25, lad25, lsu25, ldi25, leq30, lle30, lge30, llt30, lgt30, lmu30, lmv30, lad30, lsu30, ldi30, leq48, lle48, lge48, llt48, lgt48, lmu48, lmv48, lad48, lsu48, ldi48, leq50, lle50, lge50, llt50, lgt50, lmu50, lmv50, lad50, lsu50, ldi50, leq99, lle99, lge99, llt99, lgt99, lmu99, lmv99, lad99, lsu99, ldi99, leq100, lle100, lge100, llt100, lgt100, lmu100, lmv100, lad100, lsu100, ldi100, leq2000, lle2000, lge2000, llt2000, lgt2000, lmu2000, lmv2000, lad2000, lsu2000, ldi2000]
  exact lp_fa hx (fun f hf => hX f (FV_end ha hf)) 48 0 _ (Nat.zero_add _) hF
theorem sp_fa0 {x : Int64} {a : Nat} (ha : a < 48) (hb : ¬ bt x a) (hX : R (.inl (some (.long 0))) ah) : xm κ 88 [.int (nI a), .long x] ah R := by
  have ez : x &&& (1 : Int64) <<< ((nI a).toInt64 &&& 63) = 0 := bt_z.mpr (fun c hc q => by
    obtain ⟨q1, q2⟩ := bt_and.mp q
    rw [bt_1 ha] at q2
    rw [q2] at q1
    exact hb q1)
  have e0 : (lg_cmp 0 0 = 0) = True := by rw [lg_cmp_eq]; exact eq_true rfl
  rw [en88]
  simp (disch := omega) only [e88_0, e88_1, e88_2, e88_3, e88_4, e88_5, e88_6, e88_7, xKv, xK0, xKx, xKHv, xKH0, xk_none, xk_i, xk_f, xk_l, xk_r, xk_n, xc_i, xc_f, xc_l, xc_d, xc_r, xc_n, xo_some, List.map_cons, List.map_nil, List.sum_cons, List.sum_nil, xnzn, xpn0, xpn1, xpnb, xpnn, i10, i00, true_imp_iff, false_imp_iff, not_true_eq_false, not_false_eq_true, true_and, and_true, implies_true, xnz0, xnz1, xnzb, xfz0, xfz1, xfzb, Option.isSome_some, if_true, if_false, xbF, xbT, and_false, false_and, Nat.zero_le, Nat.reduceEqDiff, Nat.reduceLeDiff, Nat.reduceAdd, Nat.reduceSub, xiT, xiF, pk_mul, nI_add, Nat.add_sub_cancel, lad0, leq0, lle0, lge0, llt0, lgt0, leq1, lle1, lge1, llt1, lgt1, lad1, lsu1, leq2, lle2, lge2, llt2, lgt2, lmu2, lmv2, lad2, lsu2, ldi2, leq3, lle3, lge3, llt3, lgt3, lmu3, lmv3, lad3, lsu3, ldi3, leq4, lle4, lge4, llt4, lgt4, lmu4, lmv4, lad4, lsu4, ldi4, leq5, lle5, lge5, llt5, lgt5, lmu5, lmv5, lad5, lsu5, ldi5, leq6, lle6, lge6, llt6, lgt6, lmu6, lmv6, lad6, lsu6, ldi6, leq8, lle8, lge8, llt8, lgt8, lmu8, lmv8, lad8, lsu8, ldi8, leq9, lle9, lge9, llt9, lgt9, lmu9, lmv9, lad9, lsu9, ldi9, leq10, lle10, lge10, llt10, lgt10, lmu10, lmv10, lad10, lsu10, ldi10, leq12, lle12, lge12, llt12, lgt12, lmu12, lmv12, lad12, lsu12, ldi12, leq20, lle20, lge20, llt20, lgt20, lmu20, lmv20, lad20, lsu20, ldi20, leq25, lle25, lge25, llt25, lgt25, lmu25, lmv25, lad25, lsu25, ldi25, leq30, lle30, lge30, llt30, lgt30, lmu30, lmv30, lad30, lsu30, ldi30, leq48, lle48, lge48, llt48, lgt48, lmu48, lmv48, lad48, lsu48, ldi48, leq50, lle50, lge50, llt50, lgt50, lmu50, lmv50, lad50, lsu50, ldi50, leq99, lle99, lge99, llt99, lgt99, lmu99, lmv99, lad99, lsu99, ldi99, leq100, lle100, lge100, llt100, lgt100, lmu100, lmv100, lad100, lsu100, ldi100, leq2000, lle2000, lge2000, llt2000, lgt2000, lmu2000, lmv2000, lad2000, lsu2000, ldi2000, ez]
  rw [e88_9]
  have l0 : ((48 : Int32) ≤ 0) = False := by decide
  simp (disch := omega) only [e88_11, e88_13, e88_16, e88_17, e88_18, e88_19, e88_22, e88_23, e88_24, e88_27, e88_28, e88_29, e88_30, e88_31, e88_34, e88_37, e88_38, xKv, xK0, xKx, xKHv, xKH0, xk_none, xk_i, xk_f, xk_l, xk_r, xk_n, xc_i, xc_f, xc_l, xc_d, xc_r, xc_n, xo_some, List.map_cons, List.map_nil, List.sum_cons, List.sum_nil, xnzn, xpn0, xpn1, xpnb, xpnn, i10, i00, true_imp_iff, false_imp_iff, not_true_eq_false, not_false_eq_true, true_and, and_true, implies_true, xnz0, xnz1, xnzb, xfz0, xfz1, xfzb, Option.isSome_some, if_true, if_false, xbF, xbT, and_false, false_and, Nat.zero_le, Nat.reduceEqDiff, Nat.reduceLeDiff, Nat.reduceAdd, Nat.reduceSub, xiT, xiF, pk_mul, nI_add, Nat.add_sub_cancel, lad0, leq0, lle0, lge0, llt0, lgt0, leq1, lle1, lge1, llt1, lgt1, lad1, lsu1, leq2, lle2, lge2, llt2, lgt2, lmu2, lmv2, lad2, lsu2, ldi2, leq3, lle3, lge3, llt3, lgt3, lmu3, lmv3, lad3, lsu3, ldi3, leq4, lle4, lge4, llt4, lgt4, lmu4, lmv4, lad4, lsu4, ldi4, leq5, lle5, lge5, llt5, lgt5, lmu5, lmv5, lad5, lsu5, ldi5, leq6, lle6, lge6, llt6, lgt6, lmu6, lmv6, lad6, lsu6, ldi6, leq8, lle8, lge8, llt8, lgt8, lmu8, lmv8, lad8, lsu8, ldi8, leq9, lle9, lge9, llt9, lgt9, lmu9, lmv9, lad9, lsu9, ldi9, leq10, lle10, lge10, llt10, lgt10, lmu10, lmv10, lad10, lsu10, ldi10, leq12, lle12, lge12, llt12, lgt12, lmu12, lmv12, lad12, lsu12, ldi12, leq20, lle20, lge20, llt20, lgt20, lmu20, lmv20, lad20, lsu20, ldi20, leq25, lle25, lge25, llt25, lgt25, lmu25, lmv25, lad25, lsu25, ldi25, leq30, lle30, lge30, llt30, lgt30, lmu30, lmv30, lad30, lsu30, ldi30, leq48, lle48, lge48, llt48, lgt48, lmu48, lmv48, lad48, lsu48, ldi48, leq50, lle50, lge50, llt50, lgt50, lmu50, lmv50, lad50, lsu50, ldi50, leq99, lle99, lge99, llt99, lgt99, lmu99, lmv99, lad99, lsu99, ldi99, leq100, lle100, lge100, llt100, lgt100, lmu100, lmv100, lad100, lsu100, ldi100, leq2000, lle2000, lge2000, llt2000, lgt2000, lmu2000, lmv2000, lad2000, lsu2000, ldi2000, l0, e0]
  exact hX
theorem lp_cpins {l1 : Option Value} : ∀ (n s c : Nat) (x : Int64) (l7 l8 : Option Value), s + n = 48 → (∀ c, c < 64 → bt x c → c < 48) →
    R (.inl (some (.int (nI (c + npn n s (L48 x)))))) ah →
    xW (T89 κ) (xm κ) R (12, [some (.ref (A 0 0)), l1, none, some (.long x), none, some (.int (nI c)), some (.int (nI s)), l7, l8], [], ah, 0, 0) := by
  intro n
  induction n with
  | zero =>
    intro s c x l7 l8 hs hx hX
    have hs' : s = 48 := by omega
    subst hs'
    rw [e89_12]
    simp (disch := omega) only [e89_14, e89_16, e89_19, e89_21, e89_22, e89_25, e89_27, e89_29, e89_31, e89_34, e89_35, e89_36, e89_37, e89_38, e89_39, e89_40, e89_41, e89_43, e89_44, e89_46, e89_49, e89_50, e89_51, e89_52, e89_55, e89_58, e89_60, xKv, xK0, xKx, xKHv, xKH0, xk_none, xk_i, xk_f, xk_l, xk_r, xk_n, xc_i, xc_f, xc_l, xc_d, xc_r, xc_n, xo_some, List.map_cons, List.map_nil, List.sum_cons, List.sum_nil, xnzn, xpn0, xpn1, xpnb, xpnn, i10, i00, true_imp_iff, false_imp_iff, not_true_eq_false, not_false_eq_true, true_and, and_true, implies_true, xnz0, xnz1, xnzb, xfz0, xfz1, xfzb, Option.isSome_some, if_true, if_false, xbF, xbT, and_false, false_and, Nat.zero_le, Nat.reduceEqDiff, Nat.reduceLeDiff, Nat.reduceAdd, Nat.reduceSub, xiT, xiF, pk_mul, nI_add, Nat.add_sub_cancel, lad0, leq0, lle0, lge0, llt0, lgt0, leq1, lle1, lge1, llt1, lgt1, lad1, lsu1, leq2, lle2, lge2, llt2, lgt2, lmu2, lmv2, lad2, lsu2, ldi2, leq3, lle3, lge3, llt3, lgt3, lmu3, lmv3, lad3, lsu3, ldi3, leq4, lle4, lge4, llt4, lgt4, lmu4, lmv4, lad4, lsu4, ldi4, leq5, lle5, lge5, llt5, lgt5, lmu5, lmv5, lad5, lsu5, ldi5, leq6, lle6, lge6, llt6, lgt6, lmu6, lmv6, lad6, lsu6, ldi6, leq8, lle8, lge8, llt8, lgt8, lmu8, lmv8, lad8, lsu8, ldi8, leq9, lle9, lge9, llt9, lgt9, lmu9, lmv9, lad9, lsu9, ldi9, leq10, lle10, lge10, llt10, lgt10, lmu10, lmv10, lad10, lsu10, ldi10, leq12, lle12, lge12, llt12, lgt12, lmu12, lmv12, lad12, lsu12, ldi12, leq20, lle20, lge20, llt20, lgt20, lmu20, lmv20, lad20, lsu20, ldi20, leq25, lle25, lge25, llt25, lgt25, lmu25, lmv25, lad25, lsu25, ldi25, leq30, lle30, lge30, llt30, lgt30, lmu30, lmv30, lad30, lsu30, ldi30, leq48, lle48, lge48, llt48, lgt48, lmu48, lmv48, lad48, lsu48, ldi48, leq50, lle50, lge50, llt50, lgt50, lmu50, lmv50, lad50, lsu50, ldi50, leq99, lle99, lge99, llt99, lgt99, lmu99, lmv99, lad99, lsu99, ldi99, leq100, lle100, lge100, llt100, lgt100, lmu100, lmv100, lad100, lsu100, ldi100, leq2000, lle2000, lge2000, llt2000, lgt2000, lmu2000, lmv2000, lad2000, lsu2000, ldi2000, Nat.le_refl]
    exact hX
  | succ n ih =>
    intro s c x l7 l8 hs hx hX
    have i40 : ((4 : Int32) = 0) = False := by decide
    have en : npn (n + 1) s (L48 x) = xi (L48 x s) ((cnt (Rch (L48 x) s) 48 + 3) / 4) 0 + npn n (s + 1) (xi (L48 x s) (fun i => L48 x i ∧ ¬ Rch (L48 x) s i) (L48 x)) := rfl
    rw [en] at hX
    rw [e89_12]
    simp (disch := omega) only [e89_14, e89_16, e89_19, e89_21, xKv, xK0, xKx, xKHv, xKH0, xk_none, xk_i, xk_f, xk_l, xk_r, xk_n, xc_i, xc_f, xc_l, xc_d, xc_r, xc_n, xo_some, List.map_cons, List.map_nil, List.sum_cons, List.sum_nil, xnzn, xpn0, xpn1, xpnb, xpnn, i10, i00, true_imp_iff, false_imp_iff, not_true_eq_false, not_false_eq_true, true_and, and_true, implies_true, xnz0, xnz1, xnzb, xfz0, xfz1, xfzb, Option.isSome_some, if_true, if_false, xbF, xbT, and_false, false_and, Nat.zero_le, Nat.reduceEqDiff, Nat.reduceLeDiff, Nat.reduceAdd, Nat.reduceSub, xiT, xiF, pk_mul, nI_add, Nat.add_sub_cancel, lad0, leq0, lle0, lge0, llt0, lgt0, leq1, lle1, lge1, llt1, lgt1, lad1, lsu1, leq2, lle2, lge2, llt2, lgt2, lmu2, lmv2, lad2, lsu2, ldi2, leq3, lle3, lge3, llt3, lgt3, lmu3, lmv3, lad3, lsu3, ldi3, leq4, lle4, lge4, llt4, lgt4, lmu4, lmv4, lad4, lsu4, ldi4, leq5, lle5, lge5, llt5, lgt5, lmu5, lmv5, lad5, lsu5, ldi5, leq6, lle6, lge6, llt6, lgt6, lmu6, lmv6, lad6, lsu6, ldi6, leq8, lle8, lge8, llt8, lgt8, lmu8, lmv8, lad8, lsu8, ldi8, leq9, lle9, lge9, llt9, lgt9, lmu9, lmv9, lad9, lsu9, ldi9, leq10, lle10, lge10, llt10, lgt10, lmu10, lmv10, lad10, lsu10, ldi10, leq12, lle12, lge12, llt12, lgt12, lmu12, lmv12, lad12, lsu12, ldi12, leq20, lle20, lge20, llt20, lgt20, lmu20, lmv20, lad20, lsu20, ldi20, leq25, lle25, lge25, llt25, lgt25, lmu25, lmv25, lad25, lsu25, ldi25, leq30, lle30, lge30, llt30, lgt30, lmu30, lmv30, lad30, lsu30, ldi30, leq48, lle48, lge48, llt48, lgt48, lmu48, lmv48, lad48, lsu48, ldi48, leq50, lle50, lge50, llt50, lgt50, lmu50, lmv50, lad50, lsu50, ldi50, leq99, lle99, lge99, llt99, lgt99, lmu99, lmv99, lad99, lsu99, ldi99, leq100, lle100, lge100, llt100, lgt100, lmu100, lmv100, lad100, lsu100, ldi100, leq2000, lle2000, lge2000, llt2000, lgt2000, lmu2000, lmv2000, lad2000, lsu2000, ldi2000, leF]
    rw [e89_22]
    refine ⟨⟨by decide, trivial⟩, ?_⟩
    by_cases hb : bt x s
    · have hl : L48 x s := ⟨by omega, hb⟩
      rw [xi_t hl, xi_t hl] at hX
      refine sp_fa1 (by omega) hx hb (fun f hf => ?_)
      have ec : cnt (bt f) 64 = cnt (Rch (L48 x) s) 48 := by
        have e64 : (64 : Nat) = 48 + 16 := by decide
        rw [e64, cnt_split]
        have z : cnt (fun j => bt f (48 + j)) 16 = 0 := by
          rw [cnt_sm]
          exact sm_0 _ _ (fun i h1 h2 => xi_f (fun q => by
            have := (hf (48 + i) (by omega)).mp q
            omega))
        rw [z, Nat.add_zero]
        exact cnt_cg 48 (fun i hi => (hf i (by omega)).trans ⟨fun q => q.2, fun q => ⟨hi, q⟩⟩)
      have el : L48 (x &&& (f ^^^ -1)) = fun i => L48 x i ∧ ¬ Rch (L48 x) s i := by
        funext i
        unfold L48
        by_cases hi : i < 48
        · have : bt (x &&& (f ^^^ -1)) i ↔ bt x i ∧ ¬ Rch (L48 x) s i := by
            rw [bt_and, bt_not (by omega), hf i (by omega)]
            exact and_congr Iff.rfl (not_congr ⟨fun q => q.2, fun q => ⟨hi, q⟩⟩)
          unfold L48 at this
          rw [propext this]
          exact propext ⟨fun q => ⟨⟨q.1, q.2.1⟩, q.2.2⟩, fun q => ⟨q.1.1, q.1.2, q.2⟩⟩
        · exact propext ⟨fun q => absurd q.1 hi, fun q => absurd q.1.1 hi⟩
      have hle := cnt_le (Rch (L48 x) s) 48
      have st := fun l7 l8 => ih (s + 1) (c + (cnt (Rch (L48 x) s) 48 + 3) / 4) (x &&& (f ^^^ -1)) l7 l8 (by omega) (fun c hc q => hx c hc (bt_and.mp q).1) (by rw [el, Nat.add_assoc]; exact hX)
      show xW _ _ _ _
      simp (disch := omega) only [e89_25, e89_27, e89_29, e89_31, e89_34, e89_35, e89_36, e89_37, e89_38, e89_39, e89_40, e89_41, e89_43, e89_44, e89_46, e89_49, e89_50, e89_51, e89_52, e89_55, xKv, xK0, xKx, xKHv, xKH0, xk_none, xk_i, xk_f, xk_l, xk_r, xk_n, xc_i, xc_f, xc_l, xc_d, xc_r, xc_n, xo_some, List.map_cons, List.map_nil, List.sum_cons, List.sum_nil, xnzn, xpn0, xpn1, xpnb, xpnn, i10, i00, true_imp_iff, false_imp_iff, not_true_eq_false, not_false_eq_true, true_and, and_true, implies_true, xnz0, xnz1, xnzb, xfz0, xfz1, xfzb, Option.isSome_some, if_true, if_false, xbF, xbT, and_false, false_and, Nat.zero_le, Nat.reduceEqDiff, Nat.reduceLeDiff, Nat.reduceAdd, Nat.reduceSub, xiT, xiF, pk_mul, nI_add, Nat.add_sub_cancel, lad0, leq0, lle0, lge0, llt0, lgt0, leq1, lle1, lge1, llt1, lgt1, lad1, lsu1, leq2, lle2, lge2, llt2, lgt2, lmu2, lmv2, lad2, lsu2, ldi2, leq3, lle3, lge3, llt3, lgt3, lmu3, lmv3, lad3, lsu3, ldi3, leq4, lle4, lge4, llt4, lgt4, lmu4, lmv4, lad4, lsu4, ldi4, leq5, lle5, lge5, llt5, lgt5, lmu5, lmv5, lad5, lsu5, ldi5, leq6, lle6, lge6, llt6, lgt6, lmu6, lmv6, lad6, lsu6, ldi6, leq8, lle8, lge8, llt8, lgt8, lmu8, lmv8, lad8, lsu8, ldi8, leq9, lle9, lge9, llt9, lgt9, lmu9, lmv9, lad9, lsu9, ldi9, leq10, lle10, lge10, llt10, lgt10, lmu10, lmv10, lad10, lsu10, ldi10, leq12, lle12, lge12, llt12, lgt12, lmu12, lmv12, lad12, lsu12, ldi12, leq20, lle20, lge20, llt20, lgt20, lmu20, lmv20, lad20, lsu20, ldi20, leq25, lle25, lge25, llt25, lgt25, lmu25, lmv25, lad25, lsu25, ldi25, leq30, lle30, lge30, llt30, lgt30, lmu30, lmv30, lad30, lsu30, ldi30, leq48, lle48, lge48, llt48, lgt48, lmu48, lmv48, lad48, lsu48, ldi48, leq50, lle50, lge50, llt50, lgt50, lmu50, lmv50, lad50, lsu50, ldi50, leq99, lle99, lge99, llt99, lgt99, lmu99, lmv99, lad99, lsu99, ldi99, leq100, lle100, lge100, llt100, lgt100, lmu100, lmv100, lad100, lsu100, ldi100, leq2000, lle2000, lge2000, llt2000, lgt2000, lmu2000, lmv2000, lad2000, lsu2000, ldi2000, sp_bitC, ec, lad4, lsu1, i40, ldi4, Nat.add_sub_cancel, Nat.add_one_sub_one]
      exact st _ _
    · have hl : ¬ L48 x s := fun q => hb q.2
      rw [xi_f hl, xi_f hl, Nat.zero_add] at hX
      refine sp_fa0 (by omega) hb ?_
      have c0 : cnt (bt 0) 64 = 0 := by rw [cnt_sm]; exact sm_0 _ _ (fun i _ _ => xi_f bt_0)
      have ex : x &&& ((0 : Int64) ^^^ -1) = x := bt_ext (fun c hc => by rw [bt_and, bt_not hc]; exact ⟨fun q => q.1, fun q => ⟨q, bt_0⟩⟩)
      have st := fun l7 l8 => ih (s + 1) c x l7 l8 (by omega) hx hX
      have e3 : (nI 0 + 4 - 1) / 4 = nI 0 := by decide
      show xW _ _ _ _
      simp (disch := omega) only [e89_25, e89_27, e89_29, e89_31, e89_34, e89_35, e89_36, e89_37, e89_38, e89_39, e89_40, e89_41, e89_43, e89_44, e89_46, e89_49, e89_50, e89_51, e89_52, e89_55, xKv, xK0, xKx, xKHv, xKH0, xk_none, xk_i, xk_f, xk_l, xk_r, xk_n, xc_i, xc_f, xc_l, xc_d, xc_r, xc_n, xo_some, List.map_cons, List.map_nil, List.sum_cons, List.sum_nil, xnzn, xpn0, xpn1, xpnb, xpnn, i10, i00, true_imp_iff, false_imp_iff, not_true_eq_false, not_false_eq_true, true_and, and_true, implies_true, xnz0, xnz1, xnzb, xfz0, xfz1, xfzb, Option.isSome_some, if_true, if_false, xbF, xbT, and_false, false_and, Nat.zero_le, Nat.reduceEqDiff, Nat.reduceLeDiff, Nat.reduceAdd, Nat.reduceSub, xiT, xiF, sp_bitC, c0, e3, ex, i40, nI_add, Nat.add_zero, lad1]
      exact st _ _
theorem sp_c_pins (h : CR κ A σ τ h0 ah) (hL : LK σ τ) {x : Int64} (hR : Ny κ A σ τ h0 R (some (.int (v_pins x)))) : xm κ 89 [.ref (A 0 0), .long x] ah R := by
  rw [en89]
  simp (disch := omega) only [e89_0, e89_1, e89_4, e89_5, e89_6, e89_7, e89_9, e89_10, xKv, xK0, xKx, xKHv, xKH0, xk_none, xk_i, xk_f, xk_l, xk_r, xk_n, xc_i, xc_f, xc_l, xc_d, xc_r, xc_n, xo_some, List.map_cons, List.map_nil, List.sum_cons, List.sum_nil, xnzn, xpn0, xpn1, xpnb, xpnn, i10, i00, true_imp_iff, false_imp_iff, not_true_eq_false, not_false_eq_true, true_and, and_true, implies_true, xnz0, xnz1, xnzb, xfz0, xfz1, xfzb, Option.isSome_some, if_true, if_false, xbF, xbT, and_false, false_and, Nat.zero_le, Nat.reduceEqDiff, Nat.reduceLeDiff, Nat.reduceAdd, Nat.reduceSub, xiT, xiF, pk_mul, nI_add, Nat.add_sub_cancel, lad0, leq0, lle0, lge0, llt0, lgt0, leq1, lle1, lge1, llt1, lgt1, lad1, lsu1, leq2, lle2, lge2, llt2, lgt2, lmu2, lmv2, lad2, lsu2, ldi2, leq3, lle3, lge3, llt3, lgt3, lmu3, lmv3, lad3, lsu3, ldi3, leq4, lle4, lge4, llt4, lgt4, lmu4, lmv4, lad4, lsu4, ldi4, leq5, lle5, lge5, llt5, lgt5, lmu5, lmv5, lad5, lsu5, ldi5, leq6, lle6, lge6, llt6, lgt6, lmu6, lmv6, lad6, lsu6, ldi6, leq8, lle8, lge8, llt8, lgt8, lmu8, lmv8, lad8, lsu8, ldi8, leq9, lle9, lge9, llt9, lgt9, lmu9, lmv9, lad9, lsu9, ldi9, leq10, lle10, lge10, llt10, lgt10, lmu10, lmv10, lad10, lsu10, ldi10, leq12, lle12, lge12, llt12, lgt12, lmu12, lmv12, lad12, lsu12, ldi12, leq20, lle20, lge20, llt20, lgt20, lmu20, lmv20, lad20, lsu20, ldi20, leq25, lle25, lge25, llt25, lgt25, lmu25, lmv25, lad25, lsu25, ldi25, leq30, lle30, lge30, llt30, lgt30, lmu30, lmv30, lad30, lsu30, ldi30, leq48, lle48, lge48, llt48, lgt48, lmu48, lmv48, lad48, lsu48, ldi48, leq50, lle50, lge50, llt50, lgt50, lmu50, lmv50, lad50, lsu50, ldi50, leq99, lle99, lge99, llt99, lgt99, lmu99, lmv99, lad99, lsu99, ldi99, leq100, lle100, lge100, llt100, lgt100, lmu100, lmv100, lad100, lsu100, ldi100, leq2000, lle2000, lge2000, llt2000, lgt2000, lmu2000, lmv2000, lad2000, lsu2000, ldi2000]
  refine lp_cpins 48 0 0 (x &&& 281474976710655) none none (by omega) (fun c hc q => ((bt_all hc).mp q).2) ?_
  have el : L48 (x &&& 281474976710655) = fun c => c < 48 ∧ bt x c := by
    funext c
    unfold L48
    by_cases hc : c < 48
    · rw [propext (bt_all (x := x) (c := c) (by omega))]
      exact propext ⟨fun q => ⟨q.1, q.2.1⟩, fun q => ⟨q.1, q.2, q.1⟩⟩
    · exact propext ⟨fun q => absurd q.1 hc, fun q => absurd q.1 hc⟩
  rw [el, Nat.zero_add]
  exact h.same hL hR
end

