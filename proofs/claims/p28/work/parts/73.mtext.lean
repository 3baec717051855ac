/-! text -/
def wby (p j : Nat) : Nat := ((([[108, 105, 109, 101], [103, 97, 117, 103, 101, 100], [103, 121, 112, 115, 117, 109], [99, 101, 109, 101, 110, 116], [32, 100, 114, 121], [32, 99, 114, 97, 99, 107, 101, 100]] : List (List Nat)).getD p []).getD j 0)
def wdw (p : Nat) : Nat := if p = 0 then 4 else 6
def dgw (k : Nat) : Nat := if k ≤ 9 then 1 else 2
def dgt (k i : Nat) : Nat := 48 + (if k ≤ 9 then k % 10 else if i = 0 then k / 10 else k % 10)
def txc (p k d c j : Nat) : Nat :=
  if j < wdw p then wby p j
  else if j = wdw p then 32
  else if j < wdw p + 1 + dgw k then dgt k (j - (wdw p + 1))
  else if j < wdw p + dgw k + 3 then 109
  else if d = 1 ∧ j < wdw p + dgw k + 7 then wby 4 (j - (wdw p + dgw k + 3))
  else if c = 1 ∧ j < wdw p + dgw k + 3 + 4 * d + 8 then wby 5 (j - (wdw p + dgw k + 3 + 4 * d)) else 0
noncomputable def sgv (w : Int64) (L j : Nat) : Int32 := (((w >>> ((nI (8 * (L - 1 - j))).toInt64 &&& 63)) &&& 255).toInt32.toUInt32 % 65536).toInt32
theorem ch256 : ∀ c : Fin 256, narrow .char (.int (nI c.1)) = .int (nI c.1) ∧ ((nI c.1).toUInt32 % 65536).toInt32 = nI c.1 := by decide +kernel
theorem xnc {c : Nat} (h : c < 256) : narrow .char (.int (nI c)) = .int (nI c) := (ch256 ⟨c, h⟩).1
theorem xmc256 {c : Nat} (h : c < 256) : ((nI c).toUInt32 % 65536).toInt32 = nI c := (ch256 ⟨c, h⟩).2
theorem xnc0 : narrow .char (.int 0) = .int 0 := rfl
theorem xnc32 : narrow .char (.int 32) = .int 32 := rfl
theorem xnc109 : narrow .char (.int 109) = .int 109 := rfl
theorem sgv0 : ∀ j : Fin 4, sgv 1818848613 4 j.1 = nI (wby 0 j.1) := by decide +kernel
theorem sgv1 : ∀ j : Fin 6, sgv 113668279199076 6 j.1 = nI (wby 1 j.1) := by decide +kernel
theorem sgv2 : ∀ j : Fin 6, sgv 113771275318637 6 j.1 = nI (wby 2 j.1) := by decide +kernel
theorem sgv3 : ∀ j : Fin 6, sgv 109287278210676 6 j.1 = nI (wby 3 j.1) := by decide +kernel
theorem sgv4 : ∀ j : Fin 4, sgv 543453817 4 j.1 = nI (wby 4 j.1) := by decide +kernel
theorem sgv5 : ∀ j : Fin 8, sgv 2333834794513425764 8 j.1 = nI (wby 5 j.1) := by decide +kernel
theorem wby_le : ∀ (p : Fin 6) (j : Fin 8), wby p.1 j.1 < 256 := by decide +kernel
theorem xmul8 {a : Nat} : (8 : Int32) * nI a = nI (8 * a) := pk_mul 8 a
theorem ldec1 {a : Nat} (h : 1 ≤ a) : nI a + (-1) = nI (a - 1) := by rw [← lsu1 h]; exact (Int32.sub_eq_add_neg _ _).symm
theorem ldec2 {a : Nat} (h : 2 ≤ a) : nI a + (-2) = nI (a - 2) := by rw [← lsu2 h]; exact (Int32.sub_eq_add_neg _ _).symm
section
variable {κ : Nat → Nat} {R : xR → xH → Prop} {ad : Nat → Nat} {m : Nat} {ah0 ah : xH} {σ : xS} {th : Nat}
theorem i12 : ((1 : Int32) = 2) = False := by decide
theorem l48ad {a : Nat} : (48 : Int32) + nI a = nI (48 + a) := nI_add 48 a
theorem lr10 {a : Nat} (h : a < 2 ^ 31) : nI a - nI (a / 10 * 10) = nI (a % 10) := pk_rem' h (by decide) (by decide)
theorem i100 : ((10 : Int32) = 0) = False := by decide
theorem lsuz {a : Nat} : nI a - 0 = nI a := Int32.sub_zero _
noncomputable def t_text (σ : xS) (a b c d : Int32) : Nat := xi (xisC σ a b c ∧ ¬ d < 0) 0 1
noncomputable def v_text (σ : xS) (a b c d : Int32) : Int32 := xi (t_text σ a b c d = 0) (nI (txc (σ 9 (cat a b c)) (σ 10 (cat a b c)) (σ 13 (cat a b c)) (σ 14 (cat a b c)) d.toNatClampNeg)) 0
theorem txc_le {p k d c j : Nat} (hp : p ≤ 3) (hk : k ≤ 20) (hd : d ≤ 1) : txc p k d c j < 256 := by
  have hb : ∀ q i, q < 6 → wby q i < 256 := fun q i h1 => by
    by_cases h : i < 8
    · exact wby_le ⟨q, h1⟩ ⟨i, h⟩
    · have : q = 0 ∨ q = 1 ∨ q = 2 ∨ q = 3 ∨ q = 4 ∨ q = 5 := by omega
      have e : wby q i = 0 := by
        obtain ⟨n, rfl⟩ : ∃ n, i = n + 8 := ⟨i - 8, by omega⟩
        rcases this with rfl | rfl | rfl | rfl | rfl | rfl <;> rfl
      omega
  have h1 := hb p j (by omega)
  unfold txc dgt
  repeat' split
  all_goals first | omega | exact hb _ _ (by omega)
end

