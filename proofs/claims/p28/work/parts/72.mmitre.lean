/-! mitre -/
theorem leT {a b : Nat} (h : a ≤ b) : (a ≤ b) = True := eq_true h
theorem leF {a b : Nat} (h : b < a) : (a ≤ b) = False := eq_false (Nat.not_le.mpr h)
theorem ltT {a b : Nat} (h : a < b) : (a < b) = True := eq_true h
theorem ltF {a b : Nat} (h : b ≤ a) : (a < b) = False := eq_false (Nat.not_lt.mpr h)
theorem eqNT {a b : Nat} (h : a = b) : (a = b) = True := eq_true h
theorem eqNF {a b : Nat} (h : a ≠ b) : (a = b) = False := eq_false h
noncomputable def mits (a b : Nat) : UInt32 := FP.fdiv (FP.i2f (nI a)) (FP.fadd (FP.i2f (nI a)) (FP.i2f (nI b)))
noncomputable def mfar (x : UInt32) : UInt32 := xi (FP.fcmp x 1056964608 = some .lt) (FP.fsub 1056964608 x) (FP.fsub x 1056964608)
noncomputable def mit (D E : Nat → Nat) : Nat → Nat → UInt32 → UInt32 → UInt32
  | 0, _, f, _ => f
  | n + 1, i, f, q => xi (FP.fcmp (mfar (mits (D i) (E i))) q = some .gt) (mit D E n (i + 1) (mits (D i) (E i)) (mfar (mits (D i) (E i)))) (mit D E n (i + 1) f q)
theorem cvg {r : Option Ordering} : (0 ≤ Op.cmpValue r .g) = ¬ r = some .lt := by
  rcases r with _ | o
  · exact propext ⟨fun _ => (by simp), fun _ => by decide⟩
  · cases o <;> simp [Op.cmpValue] <;> decide
theorem cvl {r : Option Ordering} : (Op.cmpValue r .l ≤ 0) = ¬ r = some .gt := by
  rcases r with _ | o
  · exact propext ⟨fun _ => (by simp), fun _ => by decide⟩
  · cases o <;> simp [Op.cmpValue] <;> decide
theorem xfa {a b : Nat} : vf_n32 (FP.fadd (FP.i2f (nI a)) (FP.i2f (nI b))) = True := eq_true (Jvm.Free.Fl.fadd_out (Jvm.Free.Fl.i2f_fin _).noNaN (Jvm.Free.Fl.i2f_fin _))
theorem mitsN {a b : Nat} (h1 : 1 ≤ a) (h2 : a < 2 ^ 31) : vf_n32 (mits a b) := Jvm.Free.Fl.fdiv_out0 (Jvm.Free.Fl.i2f_fin _) (Jvm.Free.Fl.i2f_nz (by rw [Ne, leq0 h2]; omega)) (Jvm.Free.Fl.fadd_out (Jvm.Free.Fl.i2f_fin _).noNaN (Jvm.Free.Fl.i2f_fin _))
theorem halfFin : Jvm.Free.Fl.Fin32 1056964608 := (Jvm.Free.Fl.fin32_iff _).mpr (by decide)
theorem fsubL {x : UInt32} (h : FP.fcmp x 1056964608 = some .lt) : vf_n32 (FP.fsub 1056964608 x) := Jvm.Free.Fl.fsub_of_lt (by rw [h]; rfl)
theorem fsubG {x : UInt32} (h : vf_n32 x) : vf_n32 (FP.fsub x 1056964608) := Jvm.Free.Fl.fsub_out h halfFin
section
variable {κ : Nat → Nat} {R : xR → xH → Prop} {ad : Nat → Nat} {m : Nat} {ah0 ah : xH} {σ : xS} {th : Nat}
theorem dpa_1 (hI : MI σ) {p : Nat} (hp : p < σ 16 0) (i : Nat) : 1 ≤ dpa σ p i ∧ dpa σ p i ≤ 100 := by
  have hP := hI.P
  have hl := hI.w17 (p := p) (by omega)
  have hl1 := hI.w17' hp
  unfold dpa
  split
  · exact ⟨hI.w18' hp (by omega), hI.w18 (by omega)⟩
  · exact ⟨hI.w18' hp (by omega), hI.w18 (by omega)⟩
noncomputable def t_mitre (σ : xS) (a b : Int32) : Nat := xi (xin a (σ 16 0) ∧ xin b (σ 16 0)) 0 1
noncomputable def v_mitre (σ : xS) (a b : Int32) : UInt32 := xi (t_mitre σ a b = 0) (mit (dpa σ a.toNatClampNeg) (dpa σ b.toNatClampNeg) (if σ 17 a.toNatClampNeg ≤ σ 17 b.toNatClampNeg then σ 17 b.toNatClampNeg else σ 17 a.toNatClampNeg) 0 1056964608 3212836864) FP.fconst0
end

