/-! THE REFERENCE'S CELLS: its object and its eight arrays -/
abbrev modF (M : Nat × (Nat → Nat)) (th : Int32) (σ : PS) : List Value := [.int th, .int (nI (sK σ)), .int (sHr σ), .int (sSz σ), .int (sRv σ), .ref (M.2 0), .ref (M.2 1), .ref (M.2 2), .ref (M.2 3), .ref (M.2 4), .ref (M.2 5), .ref (M.2 6), .ref (M.2 7)]
def modW (cs : Cs) (M : Nat × (Nat → Nat)) (th : Int32) (σ : PS) : va_W := [(M.1, .inr (3, modF M th σ)), (M.2 0, .inl (cs.1, 10, .inl (sHe σ))), (M.2 1, .inl (cs.1, 10, .inl (sHa σ))), (M.2 2, .inl (cs.1, 10, .inl (sPu σ))), (M.2 3, .inl (cs.1, 10, .inl (sLa σ))), (M.2 4, .inl (cs.1, 10, .inl (sWe σ))), (M.2 5, .inl (cs.1, 10, .inl (sCe σ))), (M.2 6, .inl (cs.1, 10, .inl (sAt σ))), (M.2 7, .inl (cs.1, 10, .inl (sLo σ)))]
def ownM (M : Nat × (Nat → Nat)) : Nat → Prop := fun q => q = M.1 ∨ ∃ j, j < 8 ∧ q = M.2 j
def mdA (M : Nat × (Nat → Nat)) (H : Heap) : Nat → Prop := fun q => ownM M q ∨ H.size ≤ q
def AptM (M : Nat × (Nat → Nat)) : Prop := (∀ j, j < 8 → M.2 j ≠ M.1) ∧ ∀ i j, i < 8 → j < 8 → M.2 i = M.2 j → i = j
theorem modW_ad {cs : Cs} {M : Nat × (Nat → Nat)} {th : Int32} {σ : PS} {k : Nat} {q : Nat × va_E} (h : (modW cs M th σ)[k]? = some q) : (k = 0 ∧ q.1 = M.1) ∨ ∃ j, j < 8 ∧ k = j + 1 ∧ q.1 = M.2 j := by
  have hl := (List.getElem?_eq_some_iff.mp h).1
  have hl : k < 9 := hl
  rcases (show k = 0 ∨ k = 1 ∨ k = 2 ∨ k = 3 ∨ k = 4 ∨ k = 5 ∨ k = 6 ∨ k = 7 ∨ k = 8 by omega) with rfl | rfl | rfl | rfl | rfl | rfl | rfl | rfl | rfl <;> cases h
  · exact Or.inl ⟨rfl, rfl⟩
  · exact Or.inr ⟨0, by omega, rfl, rfl⟩
  · exact Or.inr ⟨1, by omega, rfl, rfl⟩
  · exact Or.inr ⟨2, by omega, rfl, rfl⟩
  · exact Or.inr ⟨3, by omega, rfl, rfl⟩
  · exact Or.inr ⟨4, by omega, rfl, rfl⟩
  · exact Or.inr ⟨5, by omega, rfl, rfl⟩
  · exact Or.inr ⟨6, by omega, rfl, rfl⟩
  · exact Or.inr ⟨7, by omega, rfl, rfl⟩
theorem mod_D {cs : Cs} {M : Nat × (Nat → Nat)} {th : Int32} {σ : PS} {A : Nat → Prop} (hap : AptM M) (hA : ∀ q, ownM M q → A q) : va_D A (modW cs M th σ) := by
  refine ⟨fun i j p q hi hj hpq => ?_, fun k q hk => hA _ ?_⟩
  · rcases modW_ad hi with ⟨a1, b1⟩ | ⟨x, hx, a1, b1⟩ <;> rcases modW_ad hj with ⟨a2, b2⟩ | ⟨y, hy, a2, b2⟩
    · omega
    · exact absurd (b2.symm.trans (hpq.symm.trans b1)) (hap.1 y hy)
    · exact absurd (b1.symm.trans (hpq.trans b2)) (hap.1 x hx)
    · have := hap.2 x y hx hy (b1.symm.trans (hpq.trans b2))
      omega
  · rcases modW_ad hk with ⟨-, b⟩ | ⟨x, hx, -, b⟩
    · exact Or.inl b
    · exact Or.inr ⟨x, hx, b⟩
theorem md_A {M : Nat × (Nat → Nat)} {H0 H : Heap} {locs : List Loc} (hS : va_S (mdA M H0) H0 H locs) : ∀ q, mdA M H q → mdA M H0 q := by
  intro q h
  rcases h with h | h
  · exact Or.inl h
  · exact Or.inr (Nat.le_trans hS.1 h)
def stepS (h : Int32) : Int32 := if h < 7 then 0 else if h ≤ 17 then (if 0 ≤ h - 12 then h - 12 else 0 - (h - 12)) else 0
theorem i_mul0 (x : Int32) : x * 0 / 2 = 0 := by
  rw [Int32.mul_zero]
  decide
theorem nat_step (x h : Int32) : x * stepS h / 2 = natSh x h := by
  unfold stepS natSh
  by_cases c1 : h < 7
  · rw [if_pos c1, if_pos c1]
    exact i_mul0 x
  · rw [if_neg c1, if_neg c1]
    by_cases c2 : h ≤ 17
    · rw [if_pos c2, if_pos c2]
    · rw [if_neg c2, if_neg c2]
      exact i_mul0 x
def isInS (v lo hi : Int32) : Int32 := if v < lo then 0 else if hi < v then 0 else 1
theorem isIn_c {v lo hi : Int32} : isInS v lo hi = b01 (¬ v < lo ∧ ¬ hi < v) := by
  unfold isInS
  by_cases c : v < lo
  · rw [if_pos c, b01_f (fun q => q.1 c)]
  · rw [if_neg c]
    by_cases d : hi < v
    · rw [if_pos d, b01_f (fun q => q.2 d)]
    · rw [if_neg d, b01_t ⟨c, d⟩]
theorem wear_ne {B : Nat} {σ : PS} (hI : InvS B σ) {i : Nat} (hi : i < sK σ) (h : ¬ sWe σ i = -1) : ∃ j, j < sK σ ∧ sWe σ i = nI j := by
  rcases wear_cases hI hi with h1 | h1
  · exact absurd h1 h
  · exact h1
theorem k_m1 {B : Nat} {σ : PS} (hI : InvS B σ) (h : 0 < sK σ) : nI (sK σ) - 1 = nI (sK σ - 1) := pk_sub (b := 1) (by omega)
theorem isMem_eq {B : Nat} {σ : PS} (hI : InvS B σ) (a : Int32) : isInS a 0 (nI (sK σ) - 1) = b01 ((ixS σ a).isSome = true) := by
  have h10 := hI.1
  rcases ix_c hI a with ⟨hn, hb⟩ | ⟨i, hi, ha, hs⟩
  · rw [hn, b01_f (by simp)]
    unfold isInS
    rcases hb with hb | hb
    · rw [if_pos hb]
    · by_cases c : a < 0
      · rw [if_pos c]
      · rw [if_neg c]
        rcases Nat.eq_zero_or_pos (sK σ) with h0 | h0
        · rw [if_pos]
          rw [h0] at hb ⊢
          obtain ⟨j, hj, e⟩ := nI_of c
          rw [e]
          have e2 : nI 0 - 1 = -1 := by decide
          rw [e2]
          exact Int32.lt_iff_toInt_lt.mpr (by rw [nI_toInt hj]; have z : (-1 : Int32).toInt = -1 := by decide; rw [z]; omega)
        · rw [if_pos]
          rw [k_m1 hI h0]
          obtain ⟨j, hj, e⟩ := nI_of c
          rw [e] at hb ⊢
          have := (nI_leI (by omega) hj).mp hb
          exact nI_lt (by omega) hj
  · rw [hs, b01_t (by rfl), ha]
    unfold isInS
    rw [if_neg (nI_pos (by omega)), k_m1 hI (by omega), if_neg (nI_nlt (by omega) (by omega))]
