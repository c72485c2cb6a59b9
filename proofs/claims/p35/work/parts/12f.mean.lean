/-! the mean: no NaN -/
theorem nan_val {a : UInt64} (h : isNaN64 a = true) : FP.Core.val64 a = .nan := by
  refine (FP.Core.dIsNaN_iff a).mp ((FP.Core.isNaN_bits a).mpr ?_)
  have h2 := isNaN64_iff.mp h
  rw [show (0x7fffffffffffffff : Nat) = 2 ^ 63 - 1 by decide, Nat.and_two_pow_sub_one_eq_mod] at h2
  exact h2
theorem alike_or {p v : UInt64} (h : alike64 p v = true) : p = v ∨ (isNaN64 p = true ∧ isNaN64 v = true) := by
  unfold alike64 at h
  rw [Bool.or_eq_true, Bool.and_eq_true, decide_eq_true_eq] at h
  exact h
theorem mean_eq {a b p q : UInt64} (hn : FP.Core.dIsNaN (FP.ddiv a b) = false) (h1 : alike64 p (FP.ddiv a b) = true) (h2 : alike64 q (FP.ddiv a b) = true) : FP.dcmp p q = some .eq := by
  have hv : FP.Core.val64 (FP.ddiv a b) ≠ .nan := fun z => by
    rw [(FP.Core.dIsNaN_iff _).mpr z] at hn
    exact Bool.noConfusion hn
  have hno : isNaN64 (FP.ddiv a b) = false := by
    cases hz : isNaN64 (FP.ddiv a b) with
    | false => rfl
    | true => exact absurd (nan_val hz) hv
  have e1 : p = FP.ddiv a b := by
    rcases alike_or h1 with h | ⟨-, h⟩
    · exact h
    · rw [hno] at h
      exact Bool.noConfusion h
  have e2 : q = FP.ddiv a b := by
    rcases alike_or h2 with h | ⟨-, h⟩
    · exact h
    · rw [hno] at h
      exact Bool.noConfusion h
  rw [e1, e2]
  exact FP.Core.dcmp_self hv
theorem mean_no (a b : Int32) (hb : ¬ b = 0) : FP.Core.dIsNaN (FP.ddiv (FP.i2d a) (FP.i2d b)) = false := by
  have h1 := FP.Core.i2d_fin a
  have h2 := FP.Core.i2d_fin b
  exact FP.Core.ddiv_out (FP.Core.DFin.notNaN h1) h2 (fun z => FP.Core.i2d_ne_zero hb ((FP.Core.zero_bits2 _).mp z))
