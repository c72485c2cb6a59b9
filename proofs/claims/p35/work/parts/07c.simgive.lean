/-! A HAT GOES BACK, in the law's own words -/
theorem ge_ne {x : Int32} (c : x ≥ 0) : ¬ x = -1 := by
  intro q
  rw [q] at c
  exact absurd c (by decide)
theorem own_k {M : Mf} {k1 k2 q : Nat} (e : k1 = k2) (h : ownS M k1 q) : ownS M k2 q := e ▸ h
theorem upd_upd {f : Nat → Int32} {i : Nat} {x y : Int32} : upd (upd f i x) i y = upd f i y := by
  funext j
  by_cases c : j = i
  · subst c
    rw [pk_us, pk_us]
  · rw [pk_un c, pk_un c, pk_un c]
theorem back_in {σ : PS} {i : Nat} (hi : i < sK σ) : backW σ i = -1 ∨ ∃ j, j < sK σ ∧ backW σ i = nI j := by
  rcases backW_c (σ := σ) (i := i) with h | ⟨-, -, h⟩
  · exact Or.inl h
  · exact Or.inr ⟨i, hi, h⟩
theorem wr_lent {B : Nat} {σ : PS} (hI : InvS B σ) {i : Nat} (hi : i < sK σ) : (wrS (sWe (setWe σ (upd (sWe σ) i (-1)))) (nI i) (sK (setWe σ (upd (sWe σ) i (-1)))) ≥ 0) ↔ lentS σ i := by
  have h10 := hI.1
  have e : sWe (setWe σ (upd (sWe σ) i (-1))) = upd (sWe σ) i (-1) := rfl
  have ek : sK (setWe σ (upd (sWe σ) i (-1))) = sK σ := rfl
  rw [e, ek]
  have hm : ¬ (-1 : Int32) = nI i := fun q => nI_m1 (by omega) q.symm
  rcases wrS_cases (f := upd (sWe σ) i (-1)) (w := nI i) (n := sK σ) (by omega) with ⟨h1, h2⟩ | ⟨k, hk, h1, h2⟩
  · rw [h1]
    constructor
    · intro h
      exact absurd h (by decide)
    · rintro ⟨j, hj, hji, hw⟩
      exact absurd ((pk_un hji).trans hw) (h2 j hj)
  · rw [h1]
    constructor
    · intro _
      have hki : k ≠ i := by
        intro q
        subst q
        rw [pk_us] at h2
        exact hm h2
      rw [pk_un hki] at h2
      exact ⟨k, hk, hki, h2⟩
    · intro _
      exact nI_pos' (by omega)
theorem sb_own {B : Nat} {σ : PS} {i : Nat} (c0 : ¬ sHa (setWe σ (upd (sWe σ) i (-1))) i ≤ 0) (c1 : ¬ wrS (sWe (setWe σ (upd (sWe σ) i (-1)))) (nI i) (sK (setWe σ (upd (sWe σ) i (-1)))) ≥ 0) (hI : InvS B σ) (hi : i < sK σ) :
    setWe (setWe σ (upd (sWe σ) i (-1))) (upd (sWe (setWe σ (upd (sWe σ) i (-1)))) i (nI i)) = setWe σ (upd (sWe σ) i (backW σ i)) := by
  have c0 : ¬ sHa σ i ≤ 0 := c0
  have hb : backW σ i = nI i := by
    unfold backW ownH
    rw [if_neg (fun q => c1 ((wr_lent hI hi).mpr q)), if_pos (Int32.not_le.mp c0)]
  rw [hb]
  show setWe σ (upd (upd (sWe σ) i (-1)) i (nI i)) = _
  rw [upd_upd]
theorem sb_no0 {σ : PS} {i : Nat} (c0 : sHa (setWe σ (upd (sWe σ) i (-1))) i ≤ 0) : setWe σ (upd (sWe σ) i (-1)) = setWe σ (upd (sWe σ) i (backW σ i)) := by
  have c0 : sHa σ i ≤ 0 := c0
  have hb : backW σ i = -1 := by
    unfold backW ownH
    by_cases c : lentS σ i
    · rw [if_pos c]
    · rw [if_neg c, if_neg (fun q => Int32.not_le.mpr q c0)]
  rw [hb]
theorem sb_no1 {B : Nat} {σ : PS} {i : Nat} (c1 : wrS (sWe (setWe σ (upd (sWe σ) i (-1)))) (nI i) (sK (setWe σ (upd (sWe σ) i (-1)))) ≥ 0) (hI : InvS B σ) (hi : i < sK σ) : setWe σ (upd (sWe σ) i (-1)) = setWe σ (upd (sWe σ) i (backW σ i)) := by
  have hb : backW σ i = -1 := by
    unfold backW
    rw [if_pos ((wr_lent hI hi).mp c1)]
  rw [hb]
