/-! pins -/
def Rch (L : Nat → Prop) (a c : Nat) : Prop := ∀ P : Nat → Prop, P a → (∀ b c, P b → besd b c → L c → P c) → P c
theorem Rch.rfl {L : Nat → Prop} {a : Nat} : Rch L a a := fun _ h _ => h
theorem Rch.step {L : Nat → Prop} {a b c : Nat} (h : Rch L a b) (hb : besd b c) (hl : L c) : Rch L a c := fun P h0 hs => hs b c (h P h0 hs) hb hl
noncomputable def cnt (P : Nat → Prop) : Nat → Nat
  | 0 => 0
  | n + 1 => cnt P n + xi (P n) 1 0
theorem cnt_le (P : Nat → Prop) : ∀ n, cnt P n ≤ n := by
  intro n
  induction n with
  | zero => exact Nat.le_refl 0
  | succ n ih =>
    show cnt P n + xi (P n) 1 0 ≤ n + 1
    by_cases q : P n
    · rw [xi_t q]; omega
    · rw [xi_f q]; omega
theorem cnt_cg {P Q : Nat → Prop} : ∀ n, (∀ i, i < n → (P i ↔ Q i)) → cnt P n = cnt Q n := by
  intro n
  induction n with
  | zero => intro _; rfl
  | succ n ih =>
    intro h
    show cnt P n + xi (P n) 1 0 = cnt Q n + xi (Q n) 1 0
    rw [ih (fun i hi => h i (by omega)), propext (h n (by omega))]
theorem cnt_add {P Q : Nat → Prop} {c : Nat} (hc : ¬ P c) : ∀ n, c < n → (∀ i, i < n → (Q i ↔ P i ∨ i = c)) → cnt Q n = cnt P n + 1 := by
  intro n
  induction n with
  | zero => intro h; omega
  | succ n ih =>
    intro h hq
    show cnt Q n + xi (Q n) 1 0 = cnt P n + xi (P n) 1 0 + 1
    by_cases e : c = n
    · subst e
      have e1 : cnt Q c = cnt P c := cnt_cg c (fun i hi => (hq i (by omega)).trans ⟨fun q => q.elim id (fun e => by omega), Or.inl⟩)
      rw [e1, xi_f hc, xi_t ((hq c (by omega)).mpr (Or.inr rfl))]
    · have e1 := ih (by omega) (fun i hi => hq i (by omega))
      have e2 : Q n ↔ P n := (hq n (by omega)).trans ⟨fun q => q.elim id (fun e' => absurd e'.symm e), Or.inl⟩
      rw [e1, propext e2]
      omega
theorem bt_one : ∀ j : Fin 48, ((1 : Int64) <<< ((nI j.1).toInt64 &&& 63)).toBitVec = BitVec.twoPow 64 j.1 := by decide +kernel
theorem bt_1 {j c : Nat} (hj : j < 48) : bt ((1 : Int64) <<< ((nI j).toInt64 &&& 63)) c ↔ c = j := by
  unfold bt
  rw [bt_one ⟨j, hj⟩, BitVec.getLsbD_twoPow]
  have : j < 64 := by omega
  simp [this]
  exact eq_comm
theorem bt_or {x y : Int64} {c : Nat} : bt (x ||| y) c ↔ bt x c ∨ bt y c := by
  unfold bt
  rw [Int64.toBitVec_or, BitVec.getLsbD_or, Bool.or_eq_true]
def lo48 (σ : xS) (c : Nat) : Prop := c < 48 ∧ σ 25 c = 1
def fcd (σ : xS) (fd : Int64) (k : Nat) : Prop := σ 25 (k % 48) = 1 ∧ bt fd (k / 48) ∧ besd (k / 48) (k % 48)
def FI (L0 : Nat → Prop) (fi : Nat) (σ0 σ : xS) (fd : Int64) (s : Nat) : Prop :=
  (∀ c i, c ≠ 25 → σ c i = σ0 c i) ∧ (∀ c, c < 48 → σ 25 c ≤ 1) ∧ (∀ c, c < 48 → bt fd c → Rch L0 fi c) ∧
  (∀ c, c < 48 → (L0 c ↔ (σ 25 c = 1 ∨ bt fd c))) ∧ (∀ c, c < 48 → ¬ (σ 25 c = 1 ∧ bt fd c)) ∧ s = cnt (bt fd) 48 ∧ bt fd fi
noncomputable def npn : Nat → Nat → (Nat → Prop) → Nat
  | 0, _, _ => 0
  | n + 1, c, L => xi (L c) ((cnt (Rch L c) 48 + 3) / 4) 0 + npn n (c + 1) (xi (L c) (fun i => L i ∧ ¬ Rch L c i) L)
section
variable {κ : Nat → Nat} {R : xR → xH → Prop} {ad : Nat → Nat} {m : Nat} {ah0 ah : xH} {σ : xS} {th : Nat}
theorem FI_step {L0 : Nat → Prop} {fi s k : Nat} {σ0 : xS} {fd : Int64} (hk : k < 2304) (h : FI L0 fi σ0 σ fd s) (hc : fcd σ fd k) : FI L0 fi σ0 (su σ 25 (k % 48) 0) (fd ||| (1 : Int64) <<< ((nI (k % 48)).toInt64 &&& 63)) (s + 1) ∧ cnt (lo48 (su σ 25 (k % 48) 0)) 48 + 1 = cnt (lo48 σ) 48 := by
  obtain ⟨h1, h2, h3, h4, h5, h6, h7⟩ := h
  obtain ⟨c1, c2, c3⟩ := hc
  have hm : k % 48 < 48 := Nat.mod_lt _ (by decide)
  have hd : k / 48 < 48 := by omega
  have hb : ∀ c, bt (fd ||| (1 : Int64) <<< ((nI (k % 48)).toInt64 &&& 63)) c ↔ bt fd c ∨ c = k % 48 := fun c => by rw [bt_or, bt_1 hm]
  have hL : L0 (k % 48) := (h4 _ hm).mpr (Or.inl c1)
  refine ⟨⟨fun c i hc => by rw [su_ne (fun e => hc e.1)]; exact h1 c i hc, fun c hc => ?_, fun c hc hq => ?_, fun c hc => ?_, fun c hc hq => ?_, ?_, (hb fi).mpr (Or.inl h7)⟩, ?_⟩
  · by_cases e : c = k % 48
    · subst e; rw [su_eq]; omega
    · rw [su_ne (fun q => e q.2)]; exact h2 c hc
  · rcases (hb c).mp hq with q | q
    · exact h3 c hc q
    · subst q; exact Rch.step (h3 _ hd c2) c3 hL
  · rw [hb]
    by_cases e : c = k % 48
    · subst e; exact ⟨fun _ => Or.inr (Or.inr rfl), fun _ => hL⟩
    · rw [su_ne (fun q => e q.2), h4 c hc]
      exact ⟨fun q => q.elim Or.inl (fun q => Or.inr (Or.inl q)), fun q => q.elim Or.inl (fun q => q.elim Or.inr (fun q => absurd q e))⟩
  · obtain ⟨q1, q2⟩ := hq
    by_cases e : c = k % 48
    · subst e; rw [su_eq] at q1; exact absurd q1 (by decide)
    · rw [su_ne (fun q => e q.2)] at q1
      exact h5 c hc ⟨q1, ((hb c).mp q2).elim id (fun q => absurd q e)⟩
  · rw [h6]
    exact (cnt_add (fun q => h5 _ hm ⟨c1, q⟩) 48 hm (fun i _ => hb i)).symm
  · refine (cnt_add (P := lo48 (su σ 25 (k % 48) 0)) (c := k % 48) (fun q => ?_) 48 hm (fun i hi => ?_)).symm
    · have := q.2
      rw [su_eq] at this
      exact absurd this (by decide)
    · unfold lo48
      by_cases e : i = k % 48
      · subst e; exact ⟨fun _ => Or.inr rfl, fun _ => ⟨hm, c1⟩⟩
      · rw [su_ne (fun q => e q.2)]
        exact ⟨Or.inl, fun q => q.elim id (fun q => absurd q e)⟩
theorem lp_fin {L0 : Nat → Prop} {fi M : Nat} {σ0 : xS} : ∀ (n k s : Nat) (g : Prop) (fd : Int64) (l7 : Option Value) (σ : xS) (ah : xH), k + n = 2304 → MR ad m ah0 ah σ th → FI L0 fi σ0 σ fd s → cnt (lo48 σ) 48 ≤ M → (g → cnt (lo48 σ) 48 < M) → (¬ g → ∀ i, i < k → ¬ fcd σ fd i) →
    (∀ (ah' : xH) (σ' : xS) (s' : Nat) (g' : Prop) (fd' : Int64) (l7' : Option Value), MR ad m ah0 ah' σ' th → FI L0 fi σ0 σ' fd' s' → (g' → cnt (lo48 σ') 48 < M) → (¬ g' → ∀ i, i < 2304 → ¬ fcd σ' fd' i) →
      xW (T144 κ) (xm κ) R (104, [some (.ref m), some (.int (nI fi)), some (.int (nI s')), some (.int (xb g')), some (.long fd'), none, some (.int (nI 2304)), l7'], [], ah', 0, 0)) →
    xW (T144 κ) (xm κ) R (25, [some (.ref m), some (.int (nI fi)), some (.int (nI s)), some (.int (xb g)), some (.long fd), none, some (.int (nI k)), l7], [], ah, 0, 0) := by
  intro n
  induction n with
  | zero =>
    intro k s g fd l7 σ ah hk h hF hM1 hM2 hn hX
    have hk' : k = 2304 := by omega
    subst hk'
    rw [e144_25]
    simp (disch := omega) only [e144_27, e144_30, e144_33, e144_35, e144_37, e144_38, e144_40, e144_40n, e144_41, e144_44, e144_46, e144_47, e144_50, e144_52, e144_54, e144_56, e144_57, e144_60, e144_63, e144_65, e144_67, e144_68, e144_70, e144_73, e144_76, e144_76n, e144_77, e144_80, e144_82, e144_83, e144_84, e144_86, e144_87, e144_89, e144_90, e144_91, e144_93, e144_96, e144_97, e144_98, e144_101, xKv, xK0, xKx, xKHv, xKH0, xk_none, xk_i, xk_f, xk_l, xk_r, xk_n, xc_i, xc_f, xc_l, xc_d, xc_r, xc_n, xo_some, List.map_cons, List.map_nil, List.sum_cons, List.sum_nil, xnzn, xpn0, xpn1, xpnb, xpnn, i10, i00, true_imp_iff, false_imp_iff, not_true_eq_false, not_false_eq_true, true_and, and_true, implies_true, xnz0, xnz1, xnzb, xfz0, xfz1, xfzb, Option.isSome_some, if_true, if_false, xbF, xbT, and_false, false_and, Nat.zero_le, Nat.reduceEqDiff, Nat.reduceLeDiff, Nat.reduceAdd, Nat.reduceSub, xiT, xiF, pk_mul, nI_add, Nat.add_sub_cancel, lad0, leq0, lle0, lge0, llt0, lgt0, leq1, lle1, lge1, llt1, lgt1, lad1, lsu1, leq2, lle2, lge2, llt2, lgt2, lmu2, lmv2, lad2, lsu2, ldi2, leq3, lle3, lge3, llt3, lgt3, lmu3, lmv3, lad3, lsu3, ldi3, leq4, lle4, lge4, llt4, lgt4, lmu4, lmv4, lad4, lsu4, ldi4, leq5, lle5, lge5, llt5, lgt5, lmu5, lmv5, lad5, lsu5, ldi5, leq6, lle6, lge6, llt6, lgt6, lmu6, lmv6, lad6, lsu6, ldi6, leq8, lle8, lge8, llt8, lgt8, lmu8, lmv8, lad8, lsu8, ldi8, leq9, lle9, lge9, llt9, lgt9, lmu9, lmv9, lad9, lsu9, ldi9, leq10, lle10, lge10, llt10, lgt10, lmu10, lmv10, lad10, lsu10, ldi10, leq12, lle12, lge12, llt12, lgt12, lmu12, lmv12, lad12, lsu12, ldi12, leq20, lle20, lge20, llt20, lgt20, lmu20, lmv20, lad20, lsu20, ldi20, leq25, lle25, lge25, llt25, lgt25, lmu25, lmv25, lad25, lsu25, ldi25, leq30, lle30, lge30, llt30, lgt30, lmu30, lmv30, lad30, lsu30, ldi30, leq48, lle48, lge48, llt48, lgt48, lmu48, lmv48, lad48, lsu48, ldi48, leq50, lle50, lge50, llt50, lgt50, lmu50, lmv50, lad50, lsu50, ldi50, leq99, lle99, lge99, llt99, lgt99, lmu99, lmv99, lad99, lsu99, ldi99, leq100, lle100, lge100, llt100, lgt100, lmu100, lmv100, lad100, lsu100, ldi100, leq2000, lle2000, lge2000, llt2000, lgt2000, lmu2000, lmv2000, lad2000, lsu2000, ldi2000, lge2304, Nat.le_refl]
    exact hX ah σ s g fd l7 h hF hM2 hn
  | succ n ih =>
    intro k s g fd l7 σ ah hk h hF hM1 hM2 hn hX
    have hlt : ¬ 2304 ≤ k := by omega
    have hd : k / 48 < 48 := by omega
    have hm : k % 48 < 48 := by omega
    obtain ⟨f25, ha25, hf25⟩ := h.r25
    have e25 := hf25 (k % 48) hm
    have b25 := hF.2.1 (k % 48) hm
    rw [e144_25]
    have no : ¬ fcd σ fd k → xW (T144 κ) (xm κ) R (25, [some (.ref m), some (.int (nI fi)), some (.int (nI s)), some (.int (xb g)), some (.long fd), none, some (.int (nI (k + 1))), some (.int (nI (k % 48)))], [], ah, 0, 0) := by
      intro hc
      refine ih (k + 1) s g fd _ σ ah (by omega) h hF hM1 hM2 (fun q i hi => ?_) hX
      by_cases e : i = k
      · subst e; exact hc
      · exact hn q i (by omega)
    by_cases c1 : σ 25 (k % 48) = 1
    · by_cases c2 : bt fd (k / 48)
      · by_cases c3 : besd (k / 48) (k % 48)
        · obtain ⟨hF', hc'⟩ := FI_step (by omega) hF ⟨c1, c2, c3⟩
          have g1 := h.w25 (k % 48) 0 ha25 hm (x := 0) rfl
          have st := fun l7 => ih (k + 1) (s + 1) True _ l7 _ _ (by omega) g1 hF' (by omega) (fun _ => by omega) (fun q => absurd trivial q) hX
          simp only [xbT] at st
          simp (disch := omega) only [e144_27, e144_30, e144_33, e144_35, e144_37, e144_38, e144_40, e144_40n, e144_41, e144_44, e144_46, e144_47, e144_50, e144_52, e144_54, e144_56, e144_57, e144_60, e144_63, e144_65, e144_67, e144_68, e144_70, e144_73, e144_76, e144_76n, e144_77, e144_80, e144_82, e144_83, e144_84, e144_86, e144_87, e144_89, e144_90, e144_91, e144_93, e144_96, e144_97, e144_98, e144_101, xKv, xK0, xKx, xKHv, xKH0, xk_none, xk_i, xk_f, xk_l, xk_r, xk_n, xc_i, xc_f, xc_l, xc_d, xc_r, xc_n, xo_some, List.map_cons, List.map_nil, List.sum_cons, List.sum_nil, xnzn, xpn0, xpn1, xpnb, xpnn, i10, i00, true_imp_iff, false_imp_iff, not_true_eq_false, not_false_eq_true, true_and, and_true, implies_true, xnz0, xnz1, xnzb, xfz0, xfz1, xfzb, Option.isSome_some, if_true, if_false, xbF, xbT, and_false, false_and, Nat.zero_le, Nat.reduceEqDiff, Nat.reduceLeDiff, Nat.reduceAdd, Nat.reduceSub, xiT, xiF, pk_mul, nI_add, Nat.add_sub_cancel, lad0, leq0, lle0, lge0, llt0, lgt0, leq1, lle1, lge1, llt1, lgt1, lad1, lsu1, leq2, lle2, lge2, llt2, lgt2, lmu2, lmv2, lad2, lsu2, ldi2, leq3, lle3, lge3, llt3, lgt3, lmu3, lmv3, lad3, lsu3, ldi3, leq4, lle4, lge4, llt4, lgt4, lmu4, lmv4, lad4, lsu4, ldi4, leq5, lle5, lge5, llt5, lgt5, lmu5, lmv5, lad5, lsu5, ldi5, leq6, lle6, lge6, llt6, lgt6, lmu6, lmv6, lad6, lsu6, ldi6, leq8, lle8, lge8, llt8, lgt8, lmu8, lmv8, lad8, lsu8, ldi8, leq9, lle9, lge9, llt9, lgt9, lmu9, lmv9, lad9, lsu9, ldi9, leq10, lle10, lge10, llt10, lgt10, lmu10, lmv10, lad10, lsu10, ldi10, leq12, lle12, lge12, llt12, lgt12, lmu12, lmv12, lad12, lsu12, ldi12, leq20, lle20, lge20, llt20, lgt20, lmu20, lmv20, lad20, lsu20, ldi20, leq25, lle25, lge25, llt25, lgt25, lmu25, lmv25, lad25, lsu25, ldi25, leq30, lle30, lge30, llt30, lgt30, lmu30, lmv30, lad30, lsu30, ldi30, leq48, lle48, lge48, llt48, lgt48, lmu48, lmv48, lad48, lsu48, ldi48, leq50, lle50, lge50, llt50, lgt50, lmu50, lmv50, lad50, lsu50, ldi50, leq99, lle99, lge99, llt99, lgt99, lmu99, lmv99, lad99, lsu99, ldi99, leq100, lle100, lge100, llt100, lgt100, lmu100, lmv100, lad100, lsu100, ldi100, leq2000, lle2000, lge2000, llt2000, lgt2000, lmu2000, lmv2000, lad2000, lsu2000, ldi2000, lge2304, hlt, h.a 25, ha25, e25, xin_nI, nI_cl, rem48, i480, eqNF, sp_m_has, c2, sp_m_beside, c3]
          exact st _
        · have st := no (fun q => c3 q.2.2)
          simp (disch := omega) only [e144_27, e144_30, e144_33, e144_35, e144_37, e144_38, e144_40, e144_40n, e144_41, e144_44, e144_46, e144_47, e144_50, e144_52, e144_54, e144_56, e144_57, e144_60, e144_63, e144_65, e144_67, e144_68, e144_70, e144_73, e144_76, e144_76n, e144_77, e144_80, e144_82, e144_83, e144_84, e144_86, e144_87, e144_89, e144_90, e144_91, e144_93, e144_96, e144_97, e144_98, e144_101, xKv, xK0, xKx, xKHv, xKH0, xk_none, xk_i, xk_f, xk_l, xk_r, xk_n, xc_i, xc_f, xc_l, xc_d, xc_r, xc_n, xo_some, List.map_cons, List.map_nil, List.sum_cons, List.sum_nil, xnzn, xpn0, xpn1, xpnb, xpnn, i10, i00, true_imp_iff, false_imp_iff, not_true_eq_false, not_false_eq_true, true_and, and_true, implies_true, xnz0, xnz1, xnzb, xfz0, xfz1, xfzb, Option.isSome_some, if_true, if_false, xbF, xbT, and_false, false_and, Nat.zero_le, Nat.reduceEqDiff, Nat.reduceLeDiff, Nat.reduceAdd, Nat.reduceSub, xiT, xiF, pk_mul, nI_add, Nat.add_sub_cancel, lad0, leq0, lle0, lge0, llt0, lgt0, leq1, lle1, lge1, llt1, lgt1, lad1, lsu1, leq2, lle2, lge2, llt2, lgt2, lmu2, lmv2, lad2, lsu2, ldi2, leq3, lle3, lge3, llt3, lgt3, lmu3, lmv3, lad3, lsu3, ldi3, leq4, lle4, lge4, llt4, lgt4, lmu4, lmv4, lad4, lsu4, ldi4, leq5, lle5, lge5, llt5, lgt5, lmu5, lmv5, lad5, lsu5, ldi5, leq6, lle6, lge6, llt6, lgt6, lmu6, lmv6, lad6, lsu6, ldi6, leq8, lle8, lge8, llt8, lgt8, lmu8, lmv8, lad8, lsu8, ldi8, leq9, lle9, lge9, llt9, lgt9, lmu9, lmv9, lad9, lsu9, ldi9, leq10, lle10, lge10, llt10, lgt10, lmu10, lmv10, lad10, lsu10, ldi10, leq12, lle12, lge12, llt12, lgt12, lmu12, lmv12, lad12, lsu12, ldi12, leq20, lle20, lge20, llt20, lgt20, lmu20, lmv20, lad20, lsu20, ldi20, leq25, lle25, lge25, llt25, lgt25, lmu25, lmv25, lad25, lsu25, ldi25, leq30, lle30, lge30, llt30, lgt30, lmu30, lmv30, lad30, lsu30, ldi30, leq48, lle48, lge48, llt48, lgt48, lmu48, lmv48, lad48, lsu48, ldi48, leq50, lle50, lge50, llt50, lgt50, lmu50, lmv50, lad50, lsu50, ldi50, leq99, lle99, lge99, llt99, lgt99, lmu99, lmv99, lad99, lsu99, ldi99, leq100, lle100, lge100, llt100, lgt100, lmu100, lmv100, lad100, lsu100, ldi100, leq2000, lle2000, lge2000, llt2000, lgt2000, lmu2000, lmv2000, lad2000, lsu2000, ldi2000, lge2304, hlt, h.a 25, ha25, e25, xin_nI, nI_cl, rem48, i480, eqNF, sp_m_has, c2, sp_m_beside, c3]
          exact st
      · have st := no (fun q => c2 q.2.1)
        simp (disch := omega) only [e144_27, e144_30, e144_33, e144_35, e144_37, e144_38, e144_40, e144_40n, e144_41, e144_44, e144_46, e144_47, e144_50, e144_52, e144_54, e144_56, e144_57, e144_60, e144_63, e144_65, e144_67, e144_68, e144_70, e144_73, e144_76, e144_76n, e144_77, e144_80, e144_82, e144_83, e144_84, e144_86, e144_87, e144_89, e144_90, e144_91, e144_93, e144_96, e144_97, e144_98, e144_101, xKv, xK0, xKx, xKHv, xKH0, xk_none, xk_i, xk_f, xk_l, xk_r, xk_n, xc_i, xc_f, xc_l, xc_d, xc_r, xc_n, xo_some, List.map_cons, List.map_nil, List.sum_cons, List.sum_nil, xnzn, xpn0, xpn1, xpnb, xpnn, i10, i00, true_imp_iff, false_imp_iff, not_true_eq_false, not_false_eq_true, true_and, and_true, implies_true, xnz0, xnz1, xnzb, xfz0, xfz1, xfzb, Option.isSome_some, if_true, if_false, xbF, xbT, and_false, false_and, Nat.zero_le, Nat.reduceEqDiff, Nat.reduceLeDiff, Nat.reduceAdd, Nat.reduceSub, xiT, xiF, pk_mul, nI_add, Nat.add_sub_cancel, lad0, leq0, lle0, lge0, llt0, lgt0, leq1, lle1, lge1, llt1, lgt1, lad1, lsu1, leq2, lle2, lge2, llt2, lgt2, lmu2, lmv2, lad2, lsu2, ldi2, leq3, lle3, lge3, llt3, lgt3, lmu3, lmv3, lad3, lsu3, ldi3, leq4, lle4, lge4, llt4, lgt4, lmu4, lmv4, lad4, lsu4, ldi4, leq5, lle5, lge5, llt5, lgt5, lmu5, lmv5, lad5, lsu5, ldi5, leq6, lle6, lge6, llt6, lgt6, lmu6, lmv6, lad6, lsu6, ldi6, leq8, lle8, lge8, llt8, lgt8, lmu8, lmv8, lad8, lsu8, ldi8, leq9, lle9, lge9, llt9, lgt9, lmu9, lmv9, lad9, lsu9, ldi9, leq10, lle10, lge10, llt10, lgt10, lmu10, lmv10, lad10, lsu10, ldi10, leq12, lle12, lge12, llt12, lgt12, lmu12, lmv12, lad12, lsu12, ldi12, leq20, lle20, lge20, llt20, lgt20, lmu20, lmv20, lad20, lsu20, ldi20, leq25, lle25, lge25, llt25, lgt25, lmu25, lmv25, lad25, lsu25, ldi25, leq30, lle30, lge30, llt30, lgt30, lmu30, lmv30, lad30, lsu30, ldi30, leq48, lle48, lge48, llt48, lgt48, lmu48, lmv48, lad48, lsu48, ldi48, leq50, lle50, lge50, llt50, lgt50, lmu50, lmv50, lad50, lsu50, ldi50, leq99, lle99, lge99, llt99, lgt99, lmu99, lmv99, lad99, lsu99, ldi99, leq100, lle100, lge100, llt100, lgt100, lmu100, lmv100, lad100, lsu100, ldi100, leq2000, lle2000, lge2000, llt2000, lgt2000, lmu2000, lmv2000, lad2000, lsu2000, ldi2000, lge2304, hlt, h.a 25, ha25, e25, xin_nI, nI_cl, rem48, i480, eqNF, sp_m_has, c2]
        exact st
    · have st := no (fun q => c1 q.1)
      simp (disch := omega) only [e144_27, e144_30, e144_33, e144_35, e144_37, e144_38, e144_40, e144_40n, e144_41, e144_44, e144_46, e144_47, e144_50, e144_52, e144_54, e144_56, e144_57, e144_60, e144_63, e144_65, e144_67, e144_68, e144_70, e144_73, e144_76, e144_76n, e144_77, e144_80, e144_82, e144_83, e144_84, e144_86, e144_87, e144_89, e144_90, e144_91, e144_93, e144_96, e144_97, e144_98, e144_101, xKv, xK0, xKx, xKHv, xKH0, xk_none, xk_i, xk_f, xk_l, xk_r, xk_n, xc_i, xc_f, xc_l, xc_d, xc_r, xc_n, xo_some, List.map_cons, List.map_nil, List.sum_cons, List.sum_nil, xnzn, xpn0, xpn1, xpnb, xpnn, i10, i00, true_imp_iff, false_imp_iff, not_true_eq_false, not_false_eq_true, true_and, and_true, implies_true, xnz0, xnz1, xnzb, xfz0, xfz1, xfzb, Option.isSome_some, if_true, if_false, xbF, xbT, and_false, false_and, Nat.zero_le, Nat.reduceEqDiff, Nat.reduceLeDiff, Nat.reduceAdd, Nat.reduceSub, xiT, xiF, pk_mul, nI_add, Nat.add_sub_cancel, lad0, leq0, lle0, lge0, llt0, lgt0, leq1, lle1, lge1, llt1, lgt1, lad1, lsu1, leq2, lle2, lge2, llt2, lgt2, lmu2, lmv2, lad2, lsu2, ldi2, leq3, lle3, lge3, llt3, lgt3, lmu3, lmv3, lad3, lsu3, ldi3, leq4, lle4, lge4, llt4, lgt4, lmu4, lmv4, lad4, lsu4, ldi4, leq5, lle5, lge5, llt5, lgt5, lmu5, lmv5, lad5, lsu5, ldi5, leq6, lle6, lge6, llt6, lgt6, lmu6, lmv6, lad6, lsu6, ldi6, leq8, lle8, lge8, llt8, lgt8, lmu8, lmv8, lad8, lsu8, ldi8, leq9, lle9, lge9, llt9, lgt9, lmu9, lmv9, lad9, lsu9, ldi9, leq10, lle10, lge10, llt10, lgt10, lmu10, lmv10, lad10, lsu10, ldi10, leq12, lle12, lge12, llt12, lgt12, lmu12, lmv12, lad12, lsu12, ldi12, leq20, lle20, lge20, llt20, lgt20, lmu20, lmv20, lad20, lsu20, ldi20, leq25, lle25, lge25, llt25, lgt25, lmu25, lmv25, lad25, lsu25, ldi25, leq30, lle30, lge30, llt30, lgt30, lmu30, lmv30, lad30, lsu30, ldi30, leq48, lle48, lge48, llt48, lgt48, lmu48, lmv48, lad48, lsu48, ldi48, leq50, lle50, lge50, llt50, lgt50, lmu50, lmv50, lad50, lsu50, ldi50, leq99, lle99, lge99, llt99, lgt99, lmu99, lmv99, lad99, lsu99, ldi99, leq100, lle100, lge100, llt100, lgt100, lmu100, lmv100, lad100, lsu100, ldi100, leq2000, lle2000, lge2000, llt2000, lgt2000, lmu2000, lmv2000, lad2000, lsu2000, ldi2000, lge2304, hlt, h.a 25, ha25, e25, xin_nI, nI_cl, rem48, i480, eqNT]
      exact st
theorem FI_done {L0 : Nat → Prop} {fi s : Nat} {σ0 : xS} {fd : Int64} (h : FI L0 fi σ0 σ fd s) (hL : ∀ c, L0 c → c < 48) (hc : ∀ i, i < 2304 → ¬ fcd σ fd i) (hfi : fi < 48) : ∀ c, Rch L0 fi c → c < 48 ∧ bt fd c := by
  obtain ⟨h1, h2, h3, h4, h5, h6, h7⟩ := h
  intro c hr
  refine hr (fun c => c < 48 ∧ bt fd c) ⟨hfi, h7⟩ (fun b' c' ih b l => ?_)
  obtain ⟨i1, i2⟩ := ih
  have lc := hL _ l
  refine ⟨lc, ((h4 c' lc).mp l).elim (fun q => ?_) id⟩
  refine absurd ?_ (hc (48 * b' + c') (by omega))
  have e1 : (48 * b' + c') / 48 = b' := by omega
  have e2 : (48 * b' + c') % 48 = c' := by omega
  unfold fcd
  rw [e1, e2]
  exact ⟨q, i2, b⟩
theorem lp_fout {L0 : Nat → Prop} {fi : Nat} {σ0 : xS}
    (hX : ∀ (ah' : xH) (σ' : xS) (s' : Nat) (fd' : Int64), MR ad m ah0 ah' σ' th → FI L0 fi σ0 σ' fd' s' → (∀ i, i < 2304 → ¬ fcd σ' fd' i) → R (.inl (some (.int (nI s')))) ah') :
    ∀ (M s : Nat) (fd : Int64) (l6 l7 : Option Value) (σ : xS) (ah : xH), MR ad m ah0 ah σ th → FI L0 fi σ0 σ fd s → cnt (lo48 σ) 48 ≤ M →
    xW (T144 κ) (xm κ) R (16, [some (.ref m), some (.int (nI fi)), some (.int (nI s)), some (.int 1), some (.long fd), none, l6, l7], [], ah, 0, 0) := by
  intro M
  induction M with
  | zero =>
    intro s fd l6 l7 σ ah h hF hM
    rw [e144_16]
    simp (disch := omega) only [e144_17, e144_20, e144_21, e144_22, e144_23, xKv, xK0, xKx, xKHv, xKH0, xk_none, xk_i, xk_f, xk_l, xk_r, xk_n, xc_i, xc_f, xc_l, xc_d, xc_r, xc_n, xo_some, List.map_cons, List.map_nil, List.sum_cons, List.sum_nil, xnzn, xpn0, xpn1, xpnb, xpnn, i10, i00, true_imp_iff, false_imp_iff, not_true_eq_false, not_false_eq_true, true_and, and_true, implies_true, xnz0, xnz1, xnzb, xfz0, xfz1, xfzb, Option.isSome_some, if_true, if_false, xbF, xbT, and_false, false_and, Nat.zero_le, Nat.reduceEqDiff, Nat.reduceLeDiff, Nat.reduceAdd, Nat.reduceSub, xiT, xiF, pk_mul, nI_add, Nat.add_sub_cancel, lad0, leq0, lle0, lge0, llt0, lgt0, leq1, lle1, lge1, llt1, lgt1, lad1, lsu1, leq2, lle2, lge2, llt2, lgt2, lmu2, lmv2, lad2, lsu2, ldi2, leq3, lle3, lge3, llt3, lgt3, lmu3, lmv3, lad3, lsu3, ldi3, leq4, lle4, lge4, llt4, lgt4, lmu4, lmv4, lad4, lsu4, ldi4, leq5, lle5, lge5, llt5, lgt5, lmu5, lmv5, lad5, lsu5, ldi5, leq6, lle6, lge6, llt6, lgt6, lmu6, lmv6, lad6, lsu6, ldi6, leq8, lle8, lge8, llt8, lgt8, lmu8, lmv8, lad8, lsu8, ldi8, leq9, lle9, lge9, llt9, lgt9, lmu9, lmv9, lad9, lsu9, ldi9, leq10, lle10, lge10, llt10, lgt10, lmu10, lmv10, lad10, lsu10, ldi10, leq12, lle12, lge12, llt12, lgt12, lmu12, lmv12, lad12, lsu12, ldi12, leq20, lle20, lge20, llt20, lgt20, lmu20, lmv20, lad20, lsu20, ldi20, leq25, lle25, lge25, llt25, lgt25, lmu25, lmv25, lad25, lsu25, ldi25, leq30, lle30, lge30, llt30, lgt30, lmu30, lmv30, lad30, lsu30, ldi30, leq48, lle48, lge48, llt48, lgt48, lmu48, lmv48, lad48, lsu48, ldi48, leq50, lle50, lge50, llt50, lgt50, lmu50, lmv50, lad50, lsu50, ldi50, leq99, lle99, lge99, llt99, lgt99, lmu99, lmv99, lad99, lsu99, ldi99, leq100, lle100, lge100, llt100, lgt100, lmu100, lmv100, lad100, lsu100, ldi100, leq2000, lle2000, lge2000, llt2000, lgt2000, lmu2000, lmv2000, lad2000, lsu2000, ldi2000]
    have L := lp_fin (κ := κ) (R := R) (L0 := L0) (fi := fi) (M := 0) (σ0 := σ0) 2304 0 s False fd l7 σ ah (by omega) h hF hM (fun q => q.elim) (fun _ i hi => by omega) (fun ah' σ' s' g' fd' l7' h' hF' hg hn => ?_)
    · simp only [xbF] at L
      exact L
    · have hg' : ¬ g' := fun q => by have := hg q; omega
      simp (disch := omega) only [e144_104, xKv, xK0, xKx, xKHv, xKH0, xk_none, xk_i, xk_f, xk_l, xk_r, xk_n, xc_i, xc_f, xc_l, xc_d, xc_r, xc_n, xo_some, List.map_cons, List.map_nil, List.sum_cons, List.sum_nil, xnzn, xpn0, xpn1, xpnb, xpnn, i10, i00, true_imp_iff, false_imp_iff, not_true_eq_false, not_false_eq_true, true_and, and_true, implies_true, xnz0, xnz1, xnzb, xfz0, xfz1, xfzb, Option.isSome_some, if_true, if_false, xbF, xbT, and_false, false_and, Nat.zero_le, Nat.reduceEqDiff, Nat.reduceLeDiff, Nat.reduceAdd, Nat.reduceSub, xiT, xiF, hg']
      rw [e144_16]
      simp (disch := omega) only [e144_17, e144_20, e144_21, e144_22, e144_23, e144_27, e144_30, e144_33, e144_35, e144_37, e144_38, e144_40, e144_40n, e144_41, e144_44, e144_46, e144_47, e144_50, e144_52, e144_54, e144_56, e144_57, e144_60, e144_63, e144_65, e144_67, e144_68, e144_70, e144_73, e144_76, e144_76n, e144_77, e144_80, e144_82, e144_83, e144_84, e144_86, e144_87, e144_89, e144_90, e144_91, e144_93, e144_96, e144_97, e144_98, e144_101, e144_104, e144_107, e144_108, xKv, xK0, xKx, xKHv, xKH0, xk_none, xk_i, xk_f, xk_l, xk_r, xk_n, xc_i, xc_f, xc_l, xc_d, xc_r, xc_n, xo_some, List.map_cons, List.map_nil, List.sum_cons, List.sum_nil, xnzn, xpn0, xpn1, xpnb, xpnn, i10, i00, true_imp_iff, false_imp_iff, not_true_eq_false, not_false_eq_true, true_and, and_true, implies_true, xnz0, xnz1, xnzb, xfz0, xfz1, xfzb, Option.isSome_some, if_true, if_false, xbF, xbT, and_false, false_and, Nat.zero_le, Nat.reduceEqDiff, Nat.reduceLeDiff, Nat.reduceAdd, Nat.reduceSub, xiT, xiF, pk_mul, nI_add, Nat.add_sub_cancel, lad0, leq0, lle0, lge0, llt0, lgt0, leq1, lle1, lge1, llt1, lgt1, lad1, lsu1, leq2, lle2, lge2, llt2, lgt2, lmu2, lmv2, lad2, lsu2, ldi2, leq3, lle3, lge3, llt3, lgt3, lmu3, lmv3, lad3, lsu3, ldi3, leq4, lle4, lge4, llt4, lgt4, lmu4, lmv4, lad4, lsu4, ldi4, leq5, lle5, lge5, llt5, lgt5, lmu5, lmv5, lad5, lsu5, ldi5, leq6, lle6, lge6, llt6, lgt6, lmu6, lmv6, lad6, lsu6, ldi6, leq8, lle8, lge8, llt8, lgt8, lmu8, lmv8, lad8, lsu8, ldi8, leq9, lle9, lge9, llt9, lgt9, lmu9, lmv9, lad9, lsu9, ldi9, leq10, lle10, lge10, llt10, lgt10, lmu10, lmv10, lad10, lsu10, ldi10, leq12, lle12, lge12, llt12, lgt12, lmu12, lmv12, lad12, lsu12, ldi12, leq20, lle20, lge20, llt20, lgt20, lmu20, lmv20, lad20, lsu20, ldi20, leq25, lle25, lge25, llt25, lgt25, lmu25, lmv25, lad25, lsu25, ldi25, leq30, lle30, lge30, llt30, lgt30, lmu30, lmv30, lad30, lsu30, ldi30, leq48, lle48, lge48, llt48, lgt48, lmu48, lmv48, lad48, lsu48, ldi48, leq50, lle50, lge50, llt50, lgt50, lmu50, lmv50, lad50, lsu50, ldi50, leq99, lle99, lge99, llt99, lgt99, lmu99, lmv99, lad99, lsu99, ldi99, leq100, lle100, lge100, llt100, lgt100, lmu100, lmv100, lad100, lsu100, ldi100, leq2000, lle2000, lge2000, llt2000, lgt2000, lmu2000, lmv2000, lad2000, lsu2000, ldi2000]
      exact hX ah' σ' s' fd' h' hF' (hn hg')
  | succ M ih =>
    intro s fd l6 l7 σ ah h hF hM
    rw [e144_16]
    simp (disch := omega) only [e144_17, e144_20, e144_21, e144_22, e144_23, xKv, xK0, xKx, xKHv, xKH0, xk_none, xk_i, xk_f, xk_l, xk_r, xk_n, xc_i, xc_f, xc_l, xc_d, xc_r, xc_n, xo_some, List.map_cons, List.map_nil, List.sum_cons, List.sum_nil, xnzn, xpn0, xpn1, xpnb, xpnn, i10, i00, true_imp_iff, false_imp_iff, not_true_eq_false, not_false_eq_true, true_and, and_true, implies_true, xnz0, xnz1, xnzb, xfz0, xfz1, xfzb, Option.isSome_some, if_true, if_false, xbF, xbT, and_false, false_and, Nat.zero_le, Nat.reduceEqDiff, Nat.reduceLeDiff, Nat.reduceAdd, Nat.reduceSub, xiT, xiF, pk_mul, nI_add, Nat.add_sub_cancel, lad0, leq0, lle0, lge0, llt0, lgt0, leq1, lle1, lge1, llt1, lgt1, lad1, lsu1, leq2, lle2, lge2, llt2, lgt2, lmu2, lmv2, lad2, lsu2, ldi2, leq3, lle3, lge3, llt3, lgt3, lmu3, lmv3, lad3, lsu3, ldi3, leq4, lle4, lge4, llt4, lgt4, lmu4, lmv4, lad4, lsu4, ldi4, leq5, lle5, lge5, llt5, lgt5, lmu5, lmv5, lad5, lsu5, ldi5, leq6, lle6, lge6, llt6, lgt6, lmu6, lmv6, lad6, lsu6, ldi6, leq8, lle8, lge8, llt8, lgt8, lmu8, lmv8, lad8, lsu8, ldi8, leq9, lle9, lge9, llt9, lgt9, lmu9, lmv9, lad9, lsu9, ldi9, leq10, lle10, lge10, llt10, lgt10, lmu10, lmv10, lad10, lsu10, ldi10, leq12, lle12, lge12, llt12, lgt12, lmu12, lmv12, lad12, lsu12, ldi12, leq20, lle20, lge20, llt20, lgt20, lmu20, lmv20, lad20, lsu20, ldi20, leq25, lle25, lge25, llt25, lgt25, lmu25, lmv25, lad25, lsu25, ldi25, leq30, lle30, lge30, llt30, lgt30, lmu30, lmv30, lad30, lsu30, ldi30, leq48, lle48, lge48, llt48, lgt48, lmu48, lmv48, lad48, lsu48, ldi48, leq50, lle50, lge50, llt50, lgt50, lmu50, lmv50, lad50, lsu50, ldi50, leq99, lle99, lge99, llt99, lgt99, lmu99, lmv99, lad99, lsu99, ldi99, leq100, lle100, lge100, llt100, lgt100, lmu100, lmv100, lad100, lsu100, ldi100, leq2000, lle2000, lge2000, llt2000, lgt2000, lmu2000, lmv2000, lad2000, lsu2000, ldi2000]
    have L := lp_fin (κ := κ) (R := R) (L0 := L0) (fi := fi) (M := M + 1) (σ0 := σ0) 2304 0 s False fd l7 σ ah (by omega) h hF hM (fun q => q.elim) (fun _ i hi => by omega) (fun ah' σ' s' g' fd' l7' h' hF' hg hn => ?_)
    · simp only [xbF] at L
      exact L
    · by_cases hg' : g'
      · have st := ih s' fd' (some (.int (nI 2304))) l7' σ' ah' h' hF' (by have := hg hg'; omega)
        simp (disch := omega) only [e144_104, xKv, xK0, xKx, xKHv, xKH0, xk_none, xk_i, xk_f, xk_l, xk_r, xk_n, xc_i, xc_f, xc_l, xc_d, xc_r, xc_n, xo_some, List.map_cons, List.map_nil, List.sum_cons, List.sum_nil, xnzn, xpn0, xpn1, xpnb, xpnn, i10, i00, true_imp_iff, false_imp_iff, not_true_eq_false, not_false_eq_true, true_and, and_true, implies_true, xnz0, xnz1, xnzb, xfz0, xfz1, xfzb, Option.isSome_some, if_true, if_false, xbF, xbT, and_false, false_and, Nat.zero_le, Nat.reduceEqDiff, Nat.reduceLeDiff, Nat.reduceAdd, Nat.reduceSub, xiT, xiF, hg']
        exact st
      · simp (disch := omega) only [e144_104, xKv, xK0, xKx, xKHv, xKH0, xk_none, xk_i, xk_f, xk_l, xk_r, xk_n, xc_i, xc_f, xc_l, xc_d, xc_r, xc_n, xo_some, List.map_cons, List.map_nil, List.sum_cons, List.sum_nil, xnzn, xpn0, xpn1, xpnb, xpnn, i10, i00, true_imp_iff, false_imp_iff, not_true_eq_false, not_false_eq_true, true_and, and_true, implies_true, xnz0, xnz1, xnzb, xfz0, xfz1, xfzb, Option.isSome_some, if_true, if_false, xbF, xbT, and_false, false_and, Nat.zero_le, Nat.reduceEqDiff, Nat.reduceLeDiff, Nat.reduceAdd, Nat.reduceSub, xiT, xiF, hg']
        rw [e144_16]
        simp (disch := omega) only [e144_17, e144_20, e144_21, e144_22, e144_23, e144_27, e144_30, e144_33, e144_35, e144_37, e144_38, e144_40, e144_40n, e144_41, e144_44, e144_46, e144_47, e144_50, e144_52, e144_54, e144_56, e144_57, e144_60, e144_63, e144_65, e144_67, e144_68, e144_70, e144_73, e144_76, e144_76n, e144_77, e144_80, e144_82, e144_83, e144_84, e144_86, e144_87, e144_89, e144_90, e144_91, e144_93, e144_96, e144_97, e144_98, e144_101, e144_104, e144_107, e144_108, xKv, xK0, xKx, xKHv, xKH0, xk_none, xk_i, xk_f, xk_l, xk_r, xk_n, xc_i, xc_f, xc_l, xc_d, xc_r, xc_n, xo_some, List.map_cons, List.map_nil, List.sum_cons, List.sum_nil, xnzn, xpn0, xpn1, xpnb, xpnn, i10, i00, true_imp_iff, false_imp_iff, not_true_eq_false, not_false_eq_true, true_and, and_true, implies_true, xnz0, xnz1, xnzb, xfz0, xfz1, xfzb, Option.isSome_some, if_true, if_false, xbF, xbT, and_false, false_and, Nat.zero_le, Nat.reduceEqDiff, Nat.reduceLeDiff, Nat.reduceAdd, Nat.reduceSub, xiT, xiF, pk_mul, nI_add, Nat.add_sub_cancel, lad0, leq0, lle0, lge0, llt0, lgt0, leq1, lle1, lge1, llt1, lgt1, lad1, lsu1, leq2, lle2, lge2, llt2, lgt2, lmu2, lmv2, lad2, lsu2, ldi2, leq3, lle3, lge3, llt3, lgt3, lmu3, lmv3, lad3, lsu3, ldi3, leq4, lle4, lge4, llt4, lgt4, lmu4, lmv4, lad4, lsu4, ldi4, leq5, lle5, lge5, llt5, lgt5, lmu5, lmv5, lad5, lsu5, ldi5, leq6, lle6, lge6, llt6, lgt6, lmu6, lmv6, lad6, lsu6, ldi6, leq8, lle8, lge8, llt8, lgt8, lmu8, lmv8, lad8, lsu8, ldi8, leq9, lle9, lge9, llt9, lgt9, lmu9, lmv9, lad9, lsu9, ldi9, leq10, lle10, lge10, llt10, lgt10, lmu10, lmv10, lad10, lsu10, ldi10, leq12, lle12, lge12, llt12, lgt12, lmu12, lmv12, lad12, lsu12, ldi12, leq20, lle20, lge20, llt20, lgt20, lmu20, lmv20, lad20, lsu20, ldi20, leq25, lle25, lge25, llt25, lgt25, lmu25, lmv25, lad25, lsu25, ldi25, leq30, lle30, lge30, llt30, lgt30, lmu30, lmv30, lad30, lsu30, ldi30, leq48, lle48, lge48, llt48, lgt48, lmu48, lmv48, lad48, lsu48, ldi48, leq50, lle50, lge50, llt50, lgt50, lmu50, lmv50, lad50, lsu50, ldi50, leq99, lle99, lge99, llt99, lgt99, lmu99, lmv99, lad99, lsu99, ldi99, leq100, lle100, lge100, llt100, lgt100, lmu100, lmv100, lad100, lsu100, ldi100, leq2000, lle2000, lge2000, llt2000, lgt2000, lmu2000, lmv2000, lad2000, lsu2000, ldi2000]
        exact hX ah' σ' s' fd' h' hF' (hn hg')
theorem sp_m_field (h : MR ad m ah0 ah σ th) {fi : Nat} (hfi : fi < 48) (h25 : ∀ c, c < 48 → σ 25 c ≤ 1) (hf : σ 25 fi = 1)
    (hR : ∀ (ah' : xH) (σ' : xS), MR ad m ah0 ah' σ' th → (∀ c i, c ≠ 25 → σ' c i = σ c i) → (∀ c, c < 48 → σ' 25 c ≤ 1) → (∀ c, c < 48 → (σ' 25 c = 1 ↔ σ 25 c = 1 ∧ ¬ Rch (lo48 σ) fi c)) → R (.inl (some (.int (nI (cnt (Rch (lo48 σ) fi) 48))))) ah') : xm κ 144 [.ref m, .int (nI fi)] ah R := by
  obtain ⟨f25, ha25, hf25⟩ := h.r25
  have g1 := h.w25 fi 0 ha25 hfi (x := 0) rfl
  have hb : ∀ c, bt ((1 : Int64) <<< ((nI fi).toInt64 &&& 63)) c ↔ c = fi := fun c => bt_1 hfi
  have c0 : ∀ n, cnt (fun _ => False) n = 0 := by
    intro n
    induction n with
    | zero => rfl
    | succ n ih => show cnt _ n + xi False 1 0 = 0; rw [ih, xiF]
  have hF : FI (lo48 σ) fi σ (su σ 25 fi 0) ((1 : Int64) <<< ((nI fi).toInt64 &&& 63)) 1 := by
    refine ⟨fun c i hc => su_ne (fun e => hc e.1), fun c hc => ?_, fun c hc hq => ?_, fun c hc => ?_, fun c hc hq => ?_, ?_, (hb fi).mpr rfl⟩
    · by_cases e : c = fi
      · subst e; rw [su_eq]; omega
      · rw [su_ne (fun q => e q.2)]; exact h25 c hc
    · rw [(hb c).mp hq]; exact Rch.rfl
    · rw [hb]
      by_cases e : c = fi
      · subst e; exact ⟨fun _ => Or.inr rfl, fun _ => ⟨hc, hf⟩⟩
      · rw [su_ne (fun q => e q.2)]
        exact ⟨fun q => Or.inl q.2, fun q => q.elim (fun q => ⟨hc, q⟩) (fun q => absurd q e)⟩
    · obtain ⟨q1, q2⟩ := hq
      rw [(hb c).mp q2, su_eq] at q1
      exact absurd q1 (by decide)
    · have := cnt_add (P := fun _ => False) (c := fi) id 48 hfi (Q := bt ((1 : Int64) <<< ((nI fi).toInt64 &&& 63))) (fun i _ => by rw [hb]; exact ⟨Or.inr, fun q => q.elim False.elim id⟩)
      rw [this, c0]
  simp (disch := omega) only [e144_0, e144_0n, e144_1, e144_4, e144_5, e144_6, e144_7, e144_8, e144_9, e144_10, e144_11, e144_12, e144_13, e144_14, en144, xKv, xK0, xKx, xKHv, xKH0, xk_none, xk_i, xk_f, xk_l, xk_r, xk_n, xc_i, xc_f, xc_l, xc_d, xc_r, xc_n, xo_some, List.map_cons, List.map_nil, List.sum_cons, List.sum_nil, xnzn, xpn0, xpn1, xpnb, xpnn, i10, i00, true_imp_iff, false_imp_iff, not_true_eq_false, not_false_eq_true, true_and, and_true, implies_true, xnz0, xnz1, xnzb, xfz0, xfz1, xfzb, Option.isSome_some, if_true, if_false, xbF, xbT, and_false, false_and, Nat.zero_le, Nat.reduceEqDiff, Nat.reduceLeDiff, Nat.reduceAdd, Nat.reduceSub, xiT, xiF, pk_mul, nI_add, Nat.add_sub_cancel, lad0, leq0, lle0, lge0, llt0, lgt0, leq1, lle1, lge1, llt1, lgt1, lad1, lsu1, leq2, lle2, lge2, llt2, lgt2, lmu2, lmv2, lad2, lsu2, ldi2, leq3, lle3, lge3, llt3, lgt3, lmu3, lmv3, lad3, lsu3, ldi3, leq4, lle4, lge4, llt4, lgt4, lmu4, lmv4, lad4, lsu4, ldi4, leq5, lle5, lge5, llt5, lgt5, lmu5, lmv5, lad5, lsu5, ldi5, leq6, lle6, lge6, llt6, lgt6, lmu6, lmv6, lad6, lsu6, ldi6, leq8, lle8, lge8, llt8, lgt8, lmu8, lmv8, lad8, lsu8, ldi8, leq9, lle9, lge9, llt9, lgt9, lmu9, lmv9, lad9, lsu9, ldi9, leq10, lle10, lge10, llt10, lgt10, lmu10, lmv10, lad10, lsu10, ldi10, leq12, lle12, lge12, llt12, lgt12, lmu12, lmv12, lad12, lsu12, ldi12, leq20, lle20, lge20, llt20, lgt20, lmu20, lmv20, lad20, lsu20, ldi20, leq25, lle25, lge25, llt25, lgt25, lmu25, lmv25, lad25, lsu25, ldi25, leq30, lle30, lge30, llt30, lgt30, lmu30, lmv30, lad30, lsu30, ldi30, leq48, lle48, lge48, llt48, lgt48, lmu48, lmv48, lad48, lsu48, ldi48, leq50, lle50, lge50, llt50, lgt50, lmu50, lmv50, lad50, lsu50, ldi50, leq99, lle99, lge99, llt99, lgt99, lmu99, lmv99, lad99, lsu99, ldi99, leq100, lle100, lge100, llt100, lgt100, lmu100, lmv100, lad100, lsu100, ldi100, leq2000, lle2000, lge2000, llt2000, lgt2000, lmu2000, lmv2000, lad2000, lsu2000, ldi2000, h.a 25, ha25, xin_nI, nI_cl]
  refine lp_fout (fun ah' σ' s' fd' h' hF' hn => ?_) 48 1 _ none none _ _ g1 hF (cnt_le _ 48)
  have hd := FI_done hF' (fun c q => q.1) hn hfi
  obtain ⟨q1, q2, q3, q4, q5, q6, q7⟩ := hF'
  have ee : ∀ c, c < 48 → (bt fd' c ↔ Rch (lo48 σ) fi c) := fun c hc => ⟨q3 c hc, fun q => (hd c q).2⟩
  have e := hR ah' σ' h' q1 q2 (fun c hc => by
    rw [← ee c hc]
    have a1 := q4 c hc
    have a2 := q5 c hc
    unfold lo48 at a1
    constructor
    · intro q; exact ⟨(a1.mpr (Or.inl q)).2, fun q' => a2 ⟨q, q'⟩⟩
    · intro q; exact (a1.mp ⟨hc, q.1⟩).elim id (fun q' => absurd q' q.2))
  rw [q6, cnt_cg 48 ee]
  exact e
theorem lp_pins1 {x : Int64} {l4 : Option Value} {σ0 : xS} : ∀ (n s : Nat) (σ : xS) (ah : xH), s + n = 48 → MR ad m ah0 ah σ th → (∀ c i, c ≠ 25 → σ c i = σ0 c i) → (∀ c, c < s → σ 25 c = xi (bt x c) 1 0) →
    (∀ (ah' : xH) (σ' : xS), MR ad m ah0 ah' σ' th → (∀ c i, c ≠ 25 → σ' c i = σ0 c i) → (∀ c, c < 48 → σ' 25 c = xi (bt x c) 1 0) → xW (T145 κ) (xm κ) R (30, [some (.ref m), some (.long x), none, some (.int (nI 48)), l4], [], ah', 0, 0)) →
    xW (T145 κ) (xm κ) R (7, [some (.ref m), some (.long x), none, some (.int (nI s)), l4], [], ah, 0, 0) := by
  intro n
  induction n with
  | zero =>
    intro s σ ah hs h h1 h2 hX
    have hs' : s = 48 := by omega
    subst hs'
    rw [e145_7]
    simp (disch := omega) only [e145_8, e145_10, e145_13, e145_13n, e145_14, e145_17, e145_18, e145_19, e145_20, e145_23, e145_24, e145_27, xKv, xK0, xKx, xKHv, xKH0, xk_none, xk_i, xk_f, xk_l, xk_r, xk_n, xc_i, xc_f, xc_l, xc_d, xc_r, xc_n, xo_some, List.map_cons, List.map_nil, List.sum_cons, List.sum_nil, xnzn, xpn0, xpn1, xpnb, xpnn, i10, i00, true_imp_iff, false_imp_iff, not_true_eq_false, not_false_eq_true, true_and, and_true, implies_true, xnz0, xnz1, xnzb, xfz0, xfz1, xfzb, Option.isSome_some, if_true, if_false, xbF, xbT, and_false, false_and, Nat.zero_le, Nat.reduceEqDiff, Nat.reduceLeDiff, Nat.reduceAdd, Nat.reduceSub, xiT, xiF, pk_mul, nI_add, Nat.add_sub_cancel, lad0, leq0, lle0, lge0, llt0, lgt0, leq1, lle1, lge1, llt1, lgt1, lad1, lsu1, leq2, lle2, lge2, llt2, lgt2, lmu2, lmv2, lad2, lsu2, ldi2, leq3, lle3, lge3, llt3, lgt3, lmu3, lmv3, lad3, lsu3, ldi3, leq4, lle4, lge4, llt4, lgt4, lmu4, lmv4, lad4, lsu4, ldi4, leq5, lle5, lge5, llt5, lgt5, lmu5, lmv5, lad5, lsu5, ldi5, leq6, lle6, lge6, llt6, lgt6, lmu6, lmv6, lad6, lsu6, ldi6, leq8, lle8, lge8, llt8, lgt8, lmu8, lmv8, lad8, lsu8, ldi8, leq9, lle9, lge9, llt9, lgt9, lmu9, lmv9, lad9, lsu9, ldi9, leq10, lle10, lge10, llt10, lgt10, lmu10, lmv10, lad10, lsu10, ldi10, leq12, lle12, lge12, llt12, lgt12, lmu12, lmv12, lad12, lsu12, ldi12, leq20, lle20, lge20, llt20, lgt20, lmu20, lmv20, lad20, lsu20, ldi20, leq25, lle25, lge25, llt25, lgt25, lmu25, lmv25, lad25, lsu25, ldi25, leq30, lle30, lge30, llt30, lgt30, lmu30, lmv30, lad30, lsu30, ldi30, leq48, lle48, lge48, llt48, lgt48, lmu48, lmv48, lad48, lsu48, ldi48, leq50, lle50, lge50, llt50, lgt50, lmu50, lmv50, lad50, lsu50, ldi50, leq99, lle99, lge99, llt99, lgt99, lmu99, lmv99, lad99, lsu99, ldi99, leq100, lle100, lge100, llt100, lgt100, lmu100, lmv100, lad100, lsu100, ldi100, leq2000, lle2000, lge2000, llt2000, lgt2000, lmu2000, lmv2000, lad2000, lsu2000, ldi2000, Nat.le_refl]
    exact hX ah σ h h1 h2
  | succ n ih =>
    intro s σ ah hs h h1 h2 hX
    have hlt : ¬ 48 ≤ s := by omega
    obtain ⟨f25, ha25, hf25⟩ := h.r25
    have g1 := h.w25 s (xi (bt x s) 1 0) ha25 (by omega) xbn
    have st := ih (s + 1) _ _ (by omega) g1 (fun c i hc => by rw [su_ne (fun e => hc e.1)]; exact h1 c i hc) (fun c hc => by
      by_cases e : c = s
      · subst e; exact su_eq
      · rw [su_ne (fun q => e q.2)]; exact h2 c (by omega)) hX
    rw [e145_7]
    simp (disch := omega) only [e145_8, e145_10, e145_13, e145_13n, e145_14, e145_17, e145_18, e145_19, e145_20, e145_23, e145_24, e145_27, xKv, xK0, xKx, xKHv, xKH0, xk_none, xk_i, xk_f, xk_l, xk_r, xk_n, xc_i, xc_f, xc_l, xc_d, xc_r, xc_n, xo_some, List.map_cons, List.map_nil, List.sum_cons, List.sum_nil, xnzn, xpn0, xpn1, xpnb, xpnn, i10, i00, true_imp_iff, false_imp_iff, not_true_eq_false, not_false_eq_true, true_and, and_true, implies_true, xnz0, xnz1, xnzb, xfz0, xfz1, xfzb, Option.isSome_some, if_true, if_false, xbF, xbT, and_false, false_and, Nat.zero_le, Nat.reduceEqDiff, Nat.reduceLeDiff, Nat.reduceAdd, Nat.reduceSub, xiT, xiF, pk_mul, nI_add, Nat.add_sub_cancel, lad0, leq0, lle0, lge0, llt0, lgt0, leq1, lle1, lge1, llt1, lgt1, lad1, lsu1, leq2, lle2, lge2, llt2, lgt2, lmu2, lmv2, lad2, lsu2, ldi2, leq3, lle3, lge3, llt3, lgt3, lmu3, lmv3, lad3, lsu3, ldi3, leq4, lle4, lge4, llt4, lgt4, lmu4, lmv4, lad4, lsu4, ldi4, leq5, lle5, lge5, llt5, lgt5, lmu5, lmv5, lad5, lsu5, ldi5, leq6, lle6, lge6, llt6, lgt6, lmu6, lmv6, lad6, lsu6, ldi6, leq8, lle8, lge8, llt8, lgt8, lmu8, lmv8, lad8, lsu8, ldi8, leq9, lle9, lge9, llt9, lgt9, lmu9, lmv9, lad9, lsu9, ldi9, leq10, lle10, lge10, llt10, lgt10, lmu10, lmv10, lad10, lsu10, ldi10, leq12, lle12, lge12, llt12, lgt12, lmu12, lmv12, lad12, lsu12, ldi12, leq20, lle20, lge20, llt20, lgt20, lmu20, lmv20, lad20, lsu20, ldi20, leq25, lle25, lge25, llt25, lgt25, lmu25, lmv25, lad25, lsu25, ldi25, leq30, lle30, lge30, llt30, lgt30, lmu30, lmv30, lad30, lsu30, ldi30, leq48, lle48, lge48, llt48, lgt48, lmu48, lmv48, lad48, lsu48, ldi48, leq50, lle50, lge50, llt50, lgt50, lmu50, lmv50, lad50, lsu50, ldi50, leq99, lle99, lge99, llt99, lgt99, lmu99, lmv99, lad99, lsu99, ldi99, leq100, lle100, lge100, llt100, lgt100, lmu100, lmv100, lad100, lsu100, ldi100, leq2000, lle2000, lge2000, llt2000, lgt2000, lmu2000, lmv2000, lad2000, lsu2000, ldi2000, hlt, h.a 25, ha25, xin_nI, nI_cl, sp_m_has]
    exact st
theorem lp_pins2 {l1 : Option Value} : ∀ (n s c : Nat) (σ : xS) (ah : xH), s + n = 48 → MR ad m ah0 ah σ th → (∀ c, c < 48 → σ 25 c ≤ 1) →
    (∀ (ah' : xH) (σ' : xS), MR ad m ah0 ah' σ' th → (∀ c i, c ≠ 25 → σ' c i = σ c i) → R (.inl (some (.int (nI (c + npn n s (lo48 σ)))))) ah') →
    xW (T145 κ) (xm κ) R (35, [some (.ref m), l1, none, some (.int (nI c)), some (.int (nI s))], [], ah, 0, 0) := by
  intro n
  induction n with
  | zero =>
    intro s c σ ah hs h h1 hX
    have hs' : s = 48 := by omega
    subst hs'
    rw [e145_35]
    simp (disch := omega) only [e145_37, e145_39, e145_42, e145_43, e145_43n, e145_44, e145_47, e145_49, e145_50, e145_53, e145_53n, e145_54, e145_56, e145_59, e145_60, e145_61, e145_62, e145_63, e145_66, e145_67, e145_68, e145_69, e145_72, e145_75, e145_76, xKv, xK0, xKx, xKHv, xKH0, xk_none, xk_i, xk_f, xk_l, xk_r, xk_n, xc_i, xc_f, xc_l, xc_d, xc_r, xc_n, xo_some, List.map_cons, List.map_nil, List.sum_cons, List.sum_nil, xnzn, xpn0, xpn1, xpnb, xpnn, i10, i00, true_imp_iff, false_imp_iff, not_true_eq_false, not_false_eq_true, true_and, and_true, implies_true, xnz0, xnz1, xnzb, xfz0, xfz1, xfzb, Option.isSome_some, if_true, if_false, xbF, xbT, and_false, false_and, Nat.zero_le, Nat.reduceEqDiff, Nat.reduceLeDiff, Nat.reduceAdd, Nat.reduceSub, xiT, xiF, pk_mul, nI_add, Nat.add_sub_cancel, lad0, leq0, lle0, lge0, llt0, lgt0, leq1, lle1, lge1, llt1, lgt1, lad1, lsu1, leq2, lle2, lge2, llt2, lgt2, lmu2, lmv2, lad2, lsu2, ldi2, leq3, lle3, lge3, llt3, lgt3, lmu3, lmv3, lad3, lsu3, ldi3, leq4, lle4, lge4, llt4, lgt4, lmu4, lmv4, lad4, lsu4, ldi4, leq5, lle5, lge5, llt5, lgt5, lmu5, lmv5, lad5, lsu5, ldi5, leq6, lle6, lge6, llt6, lgt6, lmu6, lmv6, lad6, lsu6, ldi6, leq8, lle8, lge8, llt8, lgt8, lmu8, lmv8, lad8, lsu8, ldi8, leq9, lle9, lge9, llt9, lgt9, lmu9, lmv9, lad9, lsu9, ldi9, leq10, lle10, lge10, llt10, lgt10, lmu10, lmv10, lad10, lsu10, ldi10, leq12, lle12, lge12, llt12, lgt12, lmu12, lmv12, lad12, lsu12, ldi12, leq20, lle20, lge20, llt20, lgt20, lmu20, lmv20, lad20, lsu20, ldi20, leq25, lle25, lge25, llt25, lgt25, lmu25, lmv25, lad25, lsu25, ldi25, leq30, lle30, lge30, llt30, lgt30, lmu30, lmv30, lad30, lsu30, ldi30, leq48, lle48, lge48, llt48, lgt48, lmu48, lmv48, lad48, lsu48, ldi48, leq50, lle50, lge50, llt50, lgt50, lmu50, lmv50, lad50, lsu50, ldi50, leq99, lle99, lge99, llt99, lgt99, lmu99, lmv99, lad99, lsu99, ldi99, leq100, lle100, lge100, llt100, lgt100, lmu100, lmv100, lad100, lsu100, ldi100, leq2000, lle2000, lge2000, llt2000, lgt2000, lmu2000, lmv2000, lad2000, lsu2000, ldi2000, Nat.le_refl]
    exact hX ah σ h (fun _ _ _ => rfl)
  | succ n ih =>
    intro s c σ ah hs h h1 hX
    have hlt : ¬ 48 ≤ s := by omega
    obtain ⟨f25, ha25, hf25⟩ := h.r25
    have e25 := hf25 s (by omega)
    have b25 := h1 s (by omega)
    have en : npn (n + 1) s (lo48 σ) = xi (lo48 σ s) ((cnt (Rch (lo48 σ) s) 48 + 3) / 4) 0 + npn n (s + 1) (xi (lo48 σ s) (fun i => lo48 σ i ∧ ¬ Rch (lo48 σ) s i) (lo48 σ)) := rfl
    rw [e145_35]
    by_cases hl : σ 25 s = 1
    · have hl' : lo48 σ s := ⟨by omega, hl⟩
      rw [xi_t hl', xi_t hl'] at en
      simp (disch := omega) only [e145_37, e145_39, e145_42, e145_43, e145_43n, e145_44, e145_47, e145_49, e145_50, e145_53, e145_53n, e145_54, xKv, xK0, xKx, xKHv, xKH0, xk_none, xk_i, xk_f, xk_l, xk_r, xk_n, xc_i, xc_f, xc_l, xc_d, xc_r, xc_n, xo_some, List.map_cons, List.map_nil, List.sum_cons, List.sum_nil, xnzn, xpn0, xpn1, xpnb, xpnn, i10, i00, true_imp_iff, false_imp_iff, not_true_eq_false, not_false_eq_true, true_and, and_true, implies_true, xnz0, xnz1, xnzb, xfz0, xfz1, xfzb, Option.isSome_some, if_true, if_false, xbF, xbT, and_false, false_and, Nat.zero_le, Nat.reduceEqDiff, Nat.reduceLeDiff, Nat.reduceAdd, Nat.reduceSub, xiT, xiF, pk_mul, nI_add, Nat.add_sub_cancel, lad0, leq0, lle0, lge0, llt0, lgt0, leq1, lle1, lge1, llt1, lgt1, lad1, lsu1, leq2, lle2, lge2, llt2, lgt2, lmu2, lmv2, lad2, lsu2, ldi2, leq3, lle3, lge3, llt3, lgt3, lmu3, lmv3, lad3, lsu3, ldi3, leq4, lle4, lge4, llt4, lgt4, lmu4, lmv4, lad4, lsu4, ldi4, leq5, lle5, lge5, llt5, lgt5, lmu5, lmv5, lad5, lsu5, ldi5, leq6, lle6, lge6, llt6, lgt6, lmu6, lmv6, lad6, lsu6, ldi6, leq8, lle8, lge8, llt8, lgt8, lmu8, lmv8, lad8, lsu8, ldi8, leq9, lle9, lge9, llt9, lgt9, lmu9, lmv9, lad9, lsu9, ldi9, leq10, lle10, lge10, llt10, lgt10, lmu10, lmv10, lad10, lsu10, ldi10, leq12, lle12, lge12, llt12, lgt12, lmu12, lmv12, lad12, lsu12, ldi12, leq20, lle20, lge20, llt20, lgt20, lmu20, lmv20, lad20, lsu20, ldi20, leq25, lle25, lge25, llt25, lgt25, lmu25, lmv25, lad25, lsu25, ldi25, leq30, lle30, lge30, llt30, lgt30, lmu30, lmv30, lad30, lsu30, ldi30, leq48, lle48, lge48, llt48, lgt48, lmu48, lmv48, lad48, lsu48, ldi48, leq50, lle50, lge50, llt50, lgt50, lmu50, lmv50, lad50, lsu50, ldi50, leq99, lle99, lge99, llt99, lgt99, lmu99, lmv99, lad99, lsu99, ldi99, leq100, lle100, lge100, llt100, lgt100, lmu100, lmv100, lad100, lsu100, ldi100, leq2000, lle2000, lge2000, llt2000, lgt2000, lmu2000, lmv2000, lad2000, lsu2000, ldi2000, hlt, h.a 25, ha25, e25, xin_nI, nI_cl, eqNF]
      rw [e145_56]
      refine ⟨⟨show (1 : Nat) + 0 ≤ 8 from by decide, h.is⟩, sp_m_field h (by omega) h1 hl (fun ah' σ' h' q1 q2 q3 => ?_)⟩
      have hc := cnt_le (Rch (lo48 σ) s) 48
      have st := ih (s + 1) (c + (cnt (Rch (lo48 σ) s) 48 + 3) / 4) σ' ah' (by omega) h' q2 (fun ah'' σ'' h'' q => by
        have e := hX ah'' σ'' h'' (fun c i hc => (q c i hc).trans (q1 c i hc))
        have el : lo48 σ' = fun i => lo48 σ i ∧ ¬ Rch (lo48 σ) s i := by
          funext i
          unfold lo48
          by_cases hi : i < 48
          · rw [propext (q3 i hi)]
            unfold lo48
            exact propext ⟨fun q => ⟨⟨hi, q.2.1⟩, q.2.2⟩, fun q => ⟨hi, q.1.2, q.2⟩⟩
          · exact propext ⟨fun q => absurd q.1 hi, fun q => absurd q.1.1 hi⟩
        rw [en, ← el, ← Nat.add_assoc] at e
        exact e)
      have i40 : ((4 : Int32) = 0) = False := by decide
      simp (disch := omega) only [e145_59, e145_60, e145_61, e145_62, e145_63, e145_66, e145_67, e145_68, e145_69, e145_72, xKv, xK0, xKx, xKHv, xKH0, xk_none, xk_i, xk_f, xk_l, xk_r, xk_n, xc_i, xc_f, xc_l, xc_d, xc_r, xc_n, xo_some, List.map_cons, List.map_nil, List.sum_cons, List.sum_nil, xnzn, xpn0, xpn1, xpnb, xpnn, i10, i00, true_imp_iff, false_imp_iff, not_true_eq_false, not_false_eq_true, true_and, and_true, implies_true, xnz0, xnz1, xnzb, xfz0, xfz1, xfzb, Option.isSome_some, if_true, if_false, xbF, xbT, and_false, false_and, Nat.zero_le, Nat.reduceEqDiff, Nat.reduceLeDiff, Nat.reduceAdd, Nat.reduceSub, xiT, xiF, pk_mul, nI_add, Nat.add_sub_cancel, lad0, leq0, lle0, lge0, llt0, lgt0, leq1, lle1, lge1, llt1, lgt1, lad1, lsu1, leq2, lle2, lge2, llt2, lgt2, lmu2, lmv2, lad2, lsu2, ldi2, leq3, lle3, lge3, llt3, lgt3, lmu3, lmv3, lad3, lsu3, ldi3, leq4, lle4, lge4, llt4, lgt4, lmu4, lmv4, lad4, lsu4, ldi4, leq5, lle5, lge5, llt5, lgt5, lmu5, lmv5, lad5, lsu5, ldi5, leq6, lle6, lge6, llt6, lgt6, lmu6, lmv6, lad6, lsu6, ldi6, leq8, lle8, lge8, llt8, lgt8, lmu8, lmv8, lad8, lsu8, ldi8, leq9, lle9, lge9, llt9, lgt9, lmu9, lmv9, lad9, lsu9, ldi9, leq10, lle10, lge10, llt10, lgt10, lmu10, lmv10, lad10, lsu10, ldi10, leq12, lle12, lge12, llt12, lgt12, lmu12, lmv12, lad12, lsu12, ldi12, leq20, lle20, lge20, llt20, lgt20, lmu20, lmv20, lad20, lsu20, ldi20, leq25, lle25, lge25, llt25, lgt25, lmu25, lmv25, lad25, lsu25, ldi25, leq30, lle30, lge30, llt30, lgt30, lmu30, lmv30, lad30, lsu30, ldi30, leq48, lle48, lge48, llt48, lgt48, lmu48, lmv48, lad48, lsu48, ldi48, leq50, lle50, lge50, llt50, lgt50, lmu50, lmv50, lad50, lsu50, ldi50, leq99, lle99, lge99, llt99, lgt99, lmu99, lmv99, lad99, lsu99, ldi99, leq100, lle100, lge100, llt100, lgt100, lmu100, lmv100, lad100, lsu100, ldi100, leq2000, lle2000, lge2000, llt2000, lgt2000, lmu2000, lmv2000, lad2000, lsu2000, ldi2000, i40]
      exact st
    · have hl' : ¬ lo48 σ s := fun q => hl q.2
      rw [xi_f hl', xi_f hl', Nat.zero_add] at en
      have st := ih (s + 1) c σ ah (by omega) h h1 (fun ah'' σ'' h'' q => by
        have e := hX ah'' σ'' h'' q
        rw [en] at e
        exact e)
      simp (disch := omega) only [e145_37, e145_39, e145_42, e145_43, e145_43n, e145_44, e145_47, e145_49, e145_50, e145_53, e145_53n, e145_54, e145_56, e145_59, e145_60, e145_61, e145_62, e145_63, e145_66, e145_67, e145_68, e145_69, e145_72, xKv, xK0, xKx, xKHv, xKH0, xk_none, xk_i, xk_f, xk_l, xk_r, xk_n, xc_i, xc_f, xc_l, xc_d, xc_r, xc_n, xo_some, List.map_cons, List.map_nil, List.sum_cons, List.sum_nil, xnzn, xpn0, xpn1, xpnb, xpnn, i10, i00, true_imp_iff, false_imp_iff, not_true_eq_false, not_false_eq_true, true_and, and_true, implies_true, xnz0, xnz1, xnzb, xfz0, xfz1, xfzb, Option.isSome_some, if_true, if_false, xbF, xbT, and_false, false_and, Nat.zero_le, Nat.reduceEqDiff, Nat.reduceLeDiff, Nat.reduceAdd, Nat.reduceSub, xiT, xiF, pk_mul, nI_add, Nat.add_sub_cancel, lad0, leq0, lle0, lge0, llt0, lgt0, leq1, lle1, lge1, llt1, lgt1, lad1, lsu1, leq2, lle2, lge2, llt2, lgt2, lmu2, lmv2, lad2, lsu2, ldi2, leq3, lle3, lge3, llt3, lgt3, lmu3, lmv3, lad3, lsu3, ldi3, leq4, lle4, lge4, llt4, lgt4, lmu4, lmv4, lad4, lsu4, ldi4, leq5, lle5, lge5, llt5, lgt5, lmu5, lmv5, lad5, lsu5, ldi5, leq6, lle6, lge6, llt6, lgt6, lmu6, lmv6, lad6, lsu6, ldi6, leq8, lle8, lge8, llt8, lgt8, lmu8, lmv8, lad8, lsu8, ldi8, leq9, lle9, lge9, llt9, lgt9, lmu9, lmv9, lad9, lsu9, ldi9, leq10, lle10, lge10, llt10, lgt10, lmu10, lmv10, lad10, lsu10, ldi10, leq12, lle12, lge12, llt12, lgt12, lmu12, lmv12, lad12, lsu12, ldi12, leq20, lle20, lge20, llt20, lgt20, lmu20, lmv20, lad20, lsu20, ldi20, leq25, lle25, lge25, llt25, lgt25, lmu25, lmv25, lad25, lsu25, ldi25, leq30, lle30, lge30, llt30, lgt30, lmu30, lmv30, lad30, lsu30, ldi30, leq48, lle48, lge48, llt48, lgt48, lmu48, lmv48, lad48, lsu48, ldi48, leq50, lle50, lge50, llt50, lgt50, lmu50, lmv50, lad50, lsu50, ldi50, leq99, lle99, lge99, llt99, lgt99, lmu99, lmv99, lad99, lsu99, ldi99, leq100, lle100, lge100, llt100, lgt100, lmu100, lmv100, lad100, lsu100, ldi100, leq2000, lle2000, lge2000, llt2000, lgt2000, lmu2000, lmv2000, lad2000, lsu2000, ldi2000, hlt, h.a 25, ha25, e25, xin_nI, nI_cl, eqNT]
      exact st
noncomputable def v_pins (x : Int64) : Int32 := nI (npn 48 0 (fun c => c < 48 ∧ bt x c))
theorem sp_m_pins (h : MR ad m ah0 ah σ th) {x : Int64} (hR : ∀ (ah' : xH) (σ' : xS), MR ad m ah0 ah' σ' 0 → (∀ c i, c ≠ 25 → σ' c i = σ c i) → R (.inl (some (.int (v_pins x)))) ah') : xm κ 145 [.ref m, .long x] ah R := by
  have g0 := h.wt 0 (x := 0) rfl
  simp (disch := omega) only [e145_0, e145_0n, e145_1, e145_2, e145_5, e145_6, en145, xKv, xK0, xKx, xKHv, xKH0, xk_none, xk_i, xk_f, xk_l, xk_r, xk_n, xc_i, xc_f, xc_l, xc_d, xc_r, xc_n, xo_some, List.map_cons, List.map_nil, List.sum_cons, List.sum_nil, xnzn, xpn0, xpn1, xpnb, xpnn, i10, i00, true_imp_iff, false_imp_iff, not_true_eq_false, not_false_eq_true, true_and, and_true, implies_true, xnz0, xnz1, xnzb, xfz0, xfz1, xfzb, Option.isSome_some, if_true, if_false, xbF, xbT, and_false, false_and, Nat.zero_le, Nat.reduceEqDiff, Nat.reduceLeDiff, Nat.reduceAdd, Nat.reduceSub, xiT, xiF, pk_mul, nI_add, Nat.add_sub_cancel, lad0, leq0, lle0, lge0, llt0, lgt0, leq1, lle1, lge1, llt1, lgt1, lad1, lsu1, leq2, lle2, lge2, llt2, lgt2, lmu2, lmv2, lad2, lsu2, ldi2, leq3, lle3, lge3, llt3, lgt3, lmu3, lmv3, lad3, lsu3, ldi3, leq4, lle4, lge4, llt4, lgt4, lmu4, lmv4, lad4, lsu4, ldi4, leq5, lle5, lge5, llt5, lgt5, lmu5, lmv5, lad5, lsu5, ldi5, leq6, lle6, lge6, llt6, lgt6, lmu6, lmv6, lad6, lsu6, ldi6, leq8, lle8, lge8, llt8, lgt8, lmu8, lmv8, lad8, lsu8, ldi8, leq9, lle9, lge9, llt9, lgt9, lmu9, lmv9, lad9, lsu9, ldi9, leq10, lle10, lge10, llt10, lgt10, lmu10, lmv10, lad10, lsu10, ldi10, leq12, lle12, lge12, llt12, lgt12, lmu12, lmv12, lad12, lsu12, ldi12, leq20, lle20, lge20, llt20, lgt20, lmu20, lmv20, lad20, lsu20, ldi20, leq25, lle25, lge25, llt25, lgt25, lmu25, lmv25, lad25, lsu25, ldi25, leq30, lle30, lge30, llt30, lgt30, lmu30, lmv30, lad30, lsu30, ldi30, leq48, lle48, lge48, llt48, lgt48, lmu48, lmv48, lad48, lsu48, ldi48, leq50, lle50, lge50, llt50, lgt50, lmu50, lmv50, lad50, lsu50, ldi50, leq99, lle99, lge99, llt99, lgt99, lmu99, lmv99, lad99, lsu99, ldi99, leq100, lle100, lge100, llt100, lgt100, lmu100, lmv100, lad100, lsu100, ldi100, leq2000, lle2000, lge2000, llt2000, lgt2000, lmu2000, lmv2000, lad2000, lsu2000, ldi2000, h.t]
  refine lp_pins1 (σ0 := σ) 48 0 σ _ (by omega) g0 (fun _ _ _ => rfl) (fun c hc => by omega) (fun ah' σ' h' q1 q2 => ?_)
  simp (disch := omega) only [e145_30, e145_31, e145_32, e145_33, xKv, xK0, xKx, xKHv, xKH0, xk_none, xk_i, xk_f, xk_l, xk_r, xk_n, xc_i, xc_f, xc_l, xc_d, xc_r, xc_n, xo_some, List.map_cons, List.map_nil, List.sum_cons, List.sum_nil, xnzn, xpn0, xpn1, xpnb, xpnn, i10, i00, true_imp_iff, false_imp_iff, not_true_eq_false, not_false_eq_true, true_and, and_true, implies_true, xnz0, xnz1, xnzb, xfz0, xfz1, xfzb, Option.isSome_some, if_true, if_false, xbF, xbT, and_false, false_and, Nat.zero_le, Nat.reduceEqDiff, Nat.reduceLeDiff, Nat.reduceAdd, Nat.reduceSub, xiT, xiF, pk_mul, nI_add, Nat.add_sub_cancel, lad0, leq0, lle0, lge0, llt0, lgt0, leq1, lle1, lge1, llt1, lgt1, lad1, lsu1, leq2, lle2, lge2, llt2, lgt2, lmu2, lmv2, lad2, lsu2, ldi2, leq3, lle3, lge3, llt3, lgt3, lmu3, lmv3, lad3, lsu3, ldi3, leq4, lle4, lge4, llt4, lgt4, lmu4, lmv4, lad4, lsu4, ldi4, leq5, lle5, lge5, llt5, lgt5, lmu5, lmv5, lad5, lsu5, ldi5, leq6, lle6, lge6, llt6, lgt6, lmu6, lmv6, lad6, lsu6, ldi6, leq8, lle8, lge8, llt8, lgt8, lmu8, lmv8, lad8, lsu8, ldi8, leq9, lle9, lge9, llt9, lgt9, lmu9, lmv9, lad9, lsu9, ldi9, leq10, lle10, lge10, llt10, lgt10, lmu10, lmv10, lad10, lsu10, ldi10, leq12, lle12, lge12, llt12, lgt12, lmu12, lmv12, lad12, lsu12, ldi12, leq20, lle20, lge20, llt20, lgt20, lmu20, lmv20, lad20, lsu20, ldi20, leq25, lle25, lge25, llt25, lgt25, lmu25, lmv25, lad25, lsu25, ldi25, leq30, lle30, lge30, llt30, lgt30, lmu30, lmv30, lad30, lsu30, ldi30, leq48, lle48, lge48, llt48, lgt48, lmu48, lmv48, lad48, lsu48, ldi48, leq50, lle50, lge50, llt50, lgt50, lmu50, lmv50, lad50, lsu50, ldi50, leq99, lle99, lge99, llt99, lgt99, lmu99, lmv99, lad99, lsu99, ldi99, leq100, lle100, lge100, llt100, lgt100, lmu100, lmv100, lad100, lsu100, ldi100, leq2000, lle2000, lge2000, llt2000, lgt2000, lmu2000, lmv2000, lad2000, lsu2000, ldi2000]
  have el : lo48 σ' = fun c => c < 48 ∧ bt x c := by
    funext c
    unfold lo48
    by_cases hc : c < 48
    · rw [q2 c hc]
      by_cases hb : bt x c
      · rw [xi_t hb]; exact propext ⟨fun _ => ⟨hc, hb⟩, fun _ => ⟨hc, rfl⟩⟩
      · rw [xi_f hb]; exact propext ⟨fun q => absurd q.2 (by decide), fun q => absurd q.2 hb⟩
    · exact propext ⟨fun q => absurd q.1 hc, fun q => absurd q.1 hc⟩
  refine lp_pins2 48 0 0 σ' ah' (by omega) h' (fun c hc => ?_) (fun ah'' σ'' h'' q => ?_)
  · rw [q2 c hc]
    by_cases hb : bt x c
    · rw [xi_t hb]; exact Nat.le_refl 1
    · rw [xi_f hb]; exact Nat.zero_le 1
  · rw [el, Nat.zero_add]
    exact hR ah'' σ'' h'' (fun c i hc => (q c i hc).trans (q1 c i hc))
end
