/-! IN THE END ALL IS AS BY HAND: sums and the longest, from behind -/
def bsum (f : Nat → Int32) (n : Nat) : Nat → Int32
  | 0 => 0
  | i + 1 => bsum f n i + f (n - 1 - i)
theorem bsum_at (f : Nat → Int32) (n : Nat) : ∀ i, i ≤ n → sumS f (n - i) + bsum f n i = sumS f n := by
  intro i
  induction i with
  | zero =>
    intro _
    show sumS f n + 0 = sumS f n
    rw [Int32.add_zero]
  | succ i ih =>
    intro h
    rw [← ih (by omega), show n - i = (n - (i + 1)) + 1 by omega]
    show sumS f (n - (i + 1)) + (bsum f n i + f (n - 1 - i)) = (sumS f (n - (i + 1)) + f (n - (i + 1))) + bsum f n i
    rw [show n - 1 - i = n - (i + 1) by omega, Int32.add_assoc, Int32.add_comm (bsum f n i)]
theorem bsum_n (f : Nat → Int32) (n : Nat) : bsum f n n = sumS f n := by
  have h := bsum_at f n n (Nat.le_refl n)
  rw [Nat.sub_self] at h
  have e : sumS f 0 = 0 := rfl
  rw [e, Int32.zero_add] at h
  exact h
theorem cnt_sum (p : Nat → Prop) [DecidablePred p] (n : Nat) : sumS (fun j => b01 (p j)) n = cntS p n := by
  induction n with
  | zero => rfl
  | succ n ih =>
    show sumS (fun j => b01 (p j)) n + b01 (p n) = cntS p n + b01 (p n)
    rw [ih]
/-- the first of the greatest of the last i -/
def lgB (f : Nat → Int32) (n : Nat) : Nat → Int32
  | 0 => -1
  | i + 1 => if lgB f n i = -1 then nI (n - 1 - i) else if f (n - 1 - i) < f (lgB f n i).toNatClampNeg then lgB f n i else nI (n - 1 - i)
theorem lgB_c (f : Nat → Int32) (n : Nat) (hn : n < 2 ^ 31) : ∀ i, i ≤ n → (i = 0 ∧ lgB f n i = -1) ∨ (0 < i ∧ ∃ b, n - i ≤ b ∧ b < n ∧ lgB f n i = nI b ∧ ∀ j, n - i ≤ j → j < n → f j ≤ f b ∧ (j < b → f j < f b)) := by
  intro i
  induction i with
  | zero => exact fun _ => Or.inl ⟨rfl, rfl⟩
  | succ i ih =>
    intro hi
    refine Or.inr ⟨Nat.succ_pos i, ?_⟩
    rcases ih (by omega) with ⟨h0, h1⟩ | ⟨h0, b, hb1, hb2, h1, h2⟩
    · refine ⟨n - 1 - i, by omega, by omega, if_pos h1, fun j j1 j2 => ?_⟩
      rw [show j = n - 1 - i by omega]
      exact ⟨Int32.le_refl _, fun z => absurd z (Nat.lt_irrefl _)⟩
    · have e1 : ¬ lgB f n i = -1 := by rw [h1]; exact nI_m1 (by omega)
      have e2 : (lgB f n i).toNatClampNeg = b := by rw [h1]; exact nI_clamp (by omega)
      have e : lgB f n (i + 1) = if f (n - 1 - i) < f b then nI b else nI (n - 1 - i) := by
        have k : lgB f n (i + 1) = _ := if_neg e1
        rw [k, e2, h1]
      by_cases c : f (n - 1 - i) < f b
      · refine ⟨b, by omega, hb2, by rw [e, if_pos c], fun j j1 j2 => ?_⟩
        rcases Nat.lt_or_ge j (n - i) with d | d
        · rw [show j = n - 1 - i by omega]
          exact ⟨Int32.le_of_lt c, fun _ => c⟩
        · exact h2 j d j2
      · have c2 : f b ≤ f (n - 1 - i) := Int32.not_lt.mp c
        refine ⟨n - 1 - i, by omega, by omega, by rw [e, if_neg c], fun j j1 j2 => ⟨?_, fun z => by omega⟩⟩
        rcases Nat.lt_or_ge j (n - i) with d | d
        · rw [show j = n - 1 - i by omega]
          exact Int32.le_refl _
        · exact Int32.le_trans (h2 j d j2).1 c2
theorem lgB_n {f : Nat → Int32} {n : Nat} (h0 : 0 < n) (hn : n < 2 ^ 31) : lgB f n n = amxS f n := by
  rcases lgB_c f n hn n (Nat.le_refl n) with ⟨h, -⟩ | ⟨-, b, -, hb, h1, h2⟩
  · omega
  · rw [h1]
    exact (amx_uniq hn hb (fun j hj => h2 j (by omega) hj)).symm
theorem lgB_s1 {f : Nat → Int32} {n i k : Nat} (hk : k = n - 1 - i) (c : lgB f n i = -1) : lgB f n (i + 1) = nI k := by
  rw [hk]
  exact if_pos c
theorem lgB_s2 {f : Nat → Int32} {n i k b : Nat} (hk : k = n - 1 - i) (hb : b < 2 ^ 31) (e : lgB f n i = nI b) (c : f k < f b) : lgB f n (i + 1) = nI b := by
  have e1 : ¬ lgB f n i = -1 := by rw [e]; exact nI_m1 hb
  have k1 : lgB f n (i + 1) = _ := if_neg e1
  rw [k1, e, nI_clamp hb, ← hk, if_pos c]
theorem lgB_s3 {f : Nat → Int32} {n i k b : Nat} (hk : k = n - 1 - i) (hb : b < 2 ^ 31) (e : lgB f n i = nI b) (c : ¬ f k < f b) : lgB f n (i + 1) = nI k := by
  have e1 : ¬ lgB f n i = -1 := by rw [e]; exact nI_m1 hb
  have k1 : lgB f n (i + 1) = _ := if_neg e1
  rw [k1, e, nI_clamp hb, ← hk, if_neg c]
theorem bsum_s {f : Nat → Int32} {n i k : Nat} (hk : k = n - 1 - i) : bsum f n (i + 1) = bsum f n i + f k := by
  rw [hk]
  rfl
theorem kI_pos {n i : Nat} (hi : i < n) : nI (n - i) - 1 = nI (n - 1 - i) := by
  rw [show n - i = (n - 1 - i) + 1 by omega]
  exact nI_pred _
theorem kI_next {k n i : Nat} (hk : k = n - 1 - i) (hi : i < n) : nI (n - (i + 1)) - 1 = nI k + (-1) := by
  rw [show n - (i + 1) = k by omega, Int32.sub_eq_add_neg]
theorem kI_end (n : Nat) : nI (n - n) - 1 = -1 := by
  rw [Nat.sub_self]
  rfl
/-! who wears a hat, and whether it is lent -/
theorem wr_neg {B : Nat} {σ : PS} (hI : InvS B σ) {k : Nat} (c : wrS (sWe σ) (nI k) (sK σ) < 0) : ¬ lentS σ k := by
  have h10 := hI.1
  rintro ⟨j, hj, -, hw⟩
  rcases wrS_cases (f := sWe σ) (w := nI k) (n := sK σ) (by omega) with ⟨-, h⟩ | ⟨b, hb, h, -⟩
  · exact h j hj hw
  · rw [h] at c
    exact nI_pos (by omega) c
theorem wr_own {B : Nat} {σ : PS} (hT : InvT B σ) {k : Nat} (hk : k < sK σ) (c : wrS (sWe σ) (nI k) (sK σ) = nI k) : ¬ lentS σ k := by
  have h10 := hT.1.1
  rcases wrS_cases (f := sWe σ) (w := nI k) (n := sK σ) (by omega) with ⟨h, -⟩ | ⟨b, hb, h, h2⟩
  · rw [c] at h
    exact absurd h (nI_m1 (by omega))
  · rw [c] at h
    have e : k = b := (nI_eq (by omega) (by omega)).mp h
    rw [← e] at h2
    exact lent_own hT hk h2
theorem wr_lent2 {B : Nat} {σ : PS} (hI : InvS B σ) {k : Nat} (c : ¬ wrS (sWe σ) (nI k) (sK σ) < 0) (d : ¬ wrS (sWe σ) (nI k) (sK σ) = nI k) : lentS σ k := by
  have h10 := hI.1
  rcases wrS_cases (f := sWe σ) (w := nI k) (n := sK σ) (by omega) with ⟨h, -⟩ | ⟨b, hb, h, h2⟩
  · rw [h] at c
    exact absurd (by decide) c
  · exact ⟨b, hb, fun q => d (by rw [h, q]), h2⟩
