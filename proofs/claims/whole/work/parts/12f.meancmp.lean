/-! THE MEAN SHADOWS compared -/
theorem nan_val {a : UInt64} (h : isNaN64 a = true) : FP.Core.val64 a = .nan := by
  refine (FP.Core.dIsNaN_iff a).mp ((FP.Core.isNaN_bits a).mpr ?_)
  have h2 := isNaN64_iff.mp h
  rw [show (0x7fffffffffffffff : Nat) = 2 ^ 63 - 1 by decide, Nat.and_two_pow_sub_one_eq_mod] at h2
  exact h2
theorem alike_or {p v : UInt64} (h : alike64 p v = true) : p = v ∨ (isNaN64 p = true ∧ isNaN64 v = true) := by
  unfold alike64 at h
  rw [Bool.or_eq_true, Bool.and_eq_true, decide_eq_true_eq] at h
  exact h
theorem same_cmp (p : UInt64) : FP.dcmp p p = some .eq ∨ FP.dcmp p p = none := by
  by_cases c : FP.Core.val64 p = .nan
  · exact Or.inr ((FP.Core.dcmp_none p p).mpr (Or.inl c))
  · exact Or.inl (FP.Core.dcmp_self c)
theorem mean_cmp {p q v : UInt64} (h1 : alike64 p v = true) (h2 : alike64 q v = true) : FP.dcmp p q = some .eq ∨ (FP.dcmp p q = none ∧ FP.dcmp p p = none ∧ FP.dcmp q q = none) := by
  have key : ∀ a b, isNaN64 a = true → isNaN64 b = true → FP.dcmp a b = none := fun a b ha _ => (FP.Core.dcmp_none a b).mpr (Or.inl (nan_val ha))
  rcases alike_or h1 with h | ⟨h, hv⟩
  · rcases alike_or h2 with g | ⟨g, gv⟩
    · subst h
      subst g
      rcases same_cmp q with c | c
      · exact Or.inl c
      · exact Or.inr ⟨c, c, c⟩
    · have hp : isNaN64 p = true := by rw [h]; exact gv
      exact Or.inr ⟨key _ _ hp g, key _ _ hp hp, key _ _ g g⟩
  · have hq : isNaN64 q = true := by
      rcases alike_or h2 with g | ⟨g, -⟩
      · rw [g]
        exact hv
      · exact g
    exact Or.inr ⟨key _ _ h hq, key _ _ h h, key _ _ hq hq⟩
theorem mn_cmp {σ : PS} {p q : UInt64} (h1 : mnP σ p) (h2 : mnP σ q) : FP.dcmp p q = some .eq ∨ (FP.dcmp p q = none ∧ FP.dcmp p p = none ∧ FP.dcmp q q = none) := by
  by_cases c : sK σ = 0
  · rw [h1.1 c, h2.1 c]
    rcases same_cmp FP.dconst0 with c | c
    · exact Or.inl c
    · exact Or.inr ⟨c, c, c⟩
  · exact mean_cmp (h1.2 c) (h2.2 c)
