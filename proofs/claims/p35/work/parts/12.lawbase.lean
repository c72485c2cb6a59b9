/-! THE LAW'S BODY: what stands throughout -/
/-- what the law's entry gives, once for all -/
def LwE (p : Program) (s : State) (m : MethodId) (c : Code) (l : Launch) (b L : Nat) (xs : Nat → Int32) (D : va_G) (cs : Cs) (e0 : Nat) : Prop :=
  p.tables.exec = Jvm.exec ∧ c.code = code ∧ c.maxLocals = 25 ∧ s.vm.findClass RL = some m.cls ∧ (∀ w ∈ wsL_law, w.before #[Value.ref b] s = true) ∧ va_X b L xs s s.heap ∧ b < s.heap.size ∧ L ≤ 260 ∧ va_K D vwCl (tyz cs) s ∧ Nst s ∧ AoI s ∧ ThrP s ∧ DefP (fun q => s.heap.size ≤ q) e0 s ∧ l.stackTraces = false
theorem J_DZ {cs : Cs} {ρ : Rf} {M : Mf} {τ σ : PS} {A : Nat → Prop} (hap : AptJ ρ M (sK σ)) (hk : sK τ = sK σ) (hA : ∀ q, ownJ ρ M (sK σ) q → A q) : va_D A (simW cs M τ ++ socW cs ρ σ) := by
  obtain ⟨h1, h2, h3⟩ := hap
  refine D_app (sim_D (by rw [hk]; exact h2) (fun q h => hA q (Or.inr (own_k hk h)))) (soc_D h1 (fun q h => hA q (Or.inl h))) (fun i j x y hi hj e => ?_)
  have a1 := sim_own_of hi
  have a2 := soc_own_of hj
  rw [hk] at a1
  exact h3 y.1 a2 (e ▸ a1)
theorem IZ_eq {U : State} {c1 c2 : ClassId} (h1 : va_RA U c1 .boolean) (h2 : va_RA U c2 .boolean) : c1 = c2 := Option.some.inj (h1.symm.trans h2)
theorem m1_nge {k : Nat} (hk : k < 2 ^ 31) : ¬ (-1 : Int32) ≥ nI k := by
  intro z
  have z := Int32.le_iff_toInt_le.mp z
  rw [nI_toInt hk] at z
  have e : (-1 : Int32).toInt = -1 := by decide
  omega
theorem nI_nm1 {k : Nat} (hk : k < 2 ^ 31) : ¬ nI k < (-1 : Int32) := by
  intro z
  have z := Int32.lt_iff_toInt_lt.mp z
  rw [nI_toInt hk] at z
  have e : (-1 : Int32).toInt = -1 := by decide
  omega
theorem lcmp_self (x : Int64) : lg_cmp x x = 0 := by
  unfold lg_cmp
  simp
theorem own_cases {σ τ : PS} {i : Nat} (hw : sWe τ i = ownH σ i) (ha : sHa τ i = sHa σ i) : (sHa τ i ≤ 0 → sWe τ i = -1) ∧ (¬ sHa τ i ≤ 0 → sWe τ i = nI i) := by
  rw [ha, hw]
  unfold ownH
  exact ⟨fun c => if_neg (fun q => Int32.not_le.mpr q c), fun c => if_pos (Int32.not_le.mp c)⟩
theorem ownS_lt {D : va_G} {cs : Cs} {M : Mf} {σ : PS} {H : Heap} (hP : va_P D vwCl (simW cs M σ) H) {z : Nat} (hz : H.size ≤ z) : ∀ q, ownS M (sK σ) q → q ≠ z := fun q h e => absurd (sim_own_lt hP q h) (by rw [e]; exact Nat.not_lt.mpr hz)
