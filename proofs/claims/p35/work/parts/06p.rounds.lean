/-! THE AUDIT, in the order of the law's own society -/
def gQ (σ : PS) : Nat → Int32 := fun j => sPu σ j - 2 * sLa σ j
def sp1 (σ : PS) (n : Nat) : PS := mkS σ (sSz σ + cntS (fun i => 0 < sLa σ i) n) (sRv σ) (fL n (gQ σ) (sPu σ)) (fL n (gZ σ) (sLa σ)) (sWe σ) (sCe σ) (sLo σ)
def sp2 (σ : PS) (n : Nat) : PS := mkS σ (sSz σ + cntS (fun i => 0 < sLa σ i) (sK σ)) (sRv σ) (fL (sK σ) (gQ σ) (sPu σ)) (fL (sK σ) (gZ σ) (sLa σ)) (fL n (ownH σ) (sWe σ)) (sCe σ) (sLo σ)
def sp3 (σ : PS) (n : Nat) : PS := mkS σ (sSz σ + cntS (fun i => 0 < sLa σ i) (sK σ)) (sRv σ + cntS (fun i => falS σ i) n) (fL n (gS σ) (fL (sK σ) (gQ σ) (sPu σ))) (fL (sK σ) (gZ σ) (sLa σ)) (fL (sK σ) (ownH σ) (sWe σ)) (fL n (gC σ) (sCe σ)) (fL n (gO σ) (sLo σ))
theorem sp1_0 (σ : PS) : sp1 σ 0 = σ := by
  unfold sp1
  rw [fL_0, fL_0]
  exact (mk_ext ⟨rfl, rfl, rfl, rfl, rfl⟩ (Int32.add_zero _).symm rfl rfl rfl rfl rfl rfl).symm
theorem sp2_0 (σ : PS) : sp2 σ 0 = sp1 σ (sK σ) := by
  unfold sp2 sp1
  rw [fL_0]
theorem sp3_0 (σ : PS) : sp3 σ 0 = sp2 σ (sK σ) := by
  unfold sp3 sp2
  rw [fL_0, fL_0, fL_0]
  exact mk_ext2 rfl (Int32.add_zero _) rfl rfl rfl rfl rfl
theorem sp1_n (σ : PS) (n : Nat) : sp1 σ (n + 1) = setLa (setPu (setSz (sp1 σ n) (sSz (sp1 σ n) + b01 (0 < sLa (sp1 σ n) n))) (upd (sPu (sp1 σ n)) n (sPu (sp1 σ n) n - 2 * sLa (sp1 σ n) n))) (upd (sLa (sp1 σ n)) n 0) := by
  have e1 : sLa (sp1 σ n) n = sLa σ n := (fL_n (n := n) (g := gZ σ) (f := sLa σ) :)
  have e2 : sPu (sp1 σ n) n = sPu σ n := (fL_n (n := n) (g := gQ σ) (f := sPu σ) :)
  rw [e1, e2]
  have k : setLa (setPu (setSz (sp1 σ n) (sSz (sp1 σ n) + b01 (0 < sLa σ n))) (upd (sPu (sp1 σ n)) n (sPu σ n - 2 * sLa σ n))) (upd (sLa (sp1 σ n)) n 0) = mkS σ (sSz σ + cntS (fun i => 0 < sLa σ i) n + b01 (0 < sLa σ n)) (sRv σ) (upd (fL n (gQ σ) (sPu σ)) n (sPu σ n - 2 * sLa σ n)) (upd (fL n (gZ σ) (sLa σ)) n 0) (sWe σ) (sCe σ) (sLo σ) := rfl
  refine Eq.trans ?_ k.symm
  exact mk_ext2 (by rw [Int32.add_assoc]; rfl) rfl (fL_u rfl).symm (fL_u rfl).symm rfl rfl rfl
theorem sp2_n (σ : PS) (n : Nat) : sp2 σ (n + 1) = setWe (sp2 σ n) (upd (sWe (sp2 σ n)) n (ownH (sp2 σ n) n)) := by
  have k : setWe (sp2 σ n) (upd (sWe (sp2 σ n)) n (ownH (sp2 σ n) n)) = mkS σ (sSz σ + cntS (fun i => 0 < sLa σ i) (sK σ)) (sRv σ) (fL (sK σ) (gQ σ) (sPu σ)) (fL (sK σ) (gZ σ) (sLa σ)) (upd (fL n (ownH σ) (sWe σ)) n (ownH σ n)) (sCe σ) (sLo σ) := rfl
  refine Eq.trans ?_ k.symm
  exact mk_ext2 rfl rfl rfl rfl (fL_u rfl).symm rfl rfl
theorem sp3_Ce (σ : PS) (n : Nat) : sCe (sp3 σ n) n = sCe σ n := (fL_n (n := n) (g := gC σ) (f := sCe σ) :)
theorem sp3_tr (σ : PS) (n : Nat) : truC (sp3 σ n) n ↔ truC σ n := by
  unfold truC
  rw [sp3_Ce]
  exact Iff.rfl
theorem sp3_Pu {σ : PS} {n : Nat} (hn : n < sK σ) : sPu (sp3 σ n) n = sPu σ n - 2 * sLa σ n := by
  have e : sPu (sp3 σ n) n = fL (sK σ) (gQ σ) (sPu σ) n := (fL_n (n := n) (g := gS σ) (f := fL (sK σ) (gQ σ) (sPu σ)) :)
  rw [e, fL_lt hn]
  rfl
theorem sp3_a {σ : PS} {n : Nat} (hn : n < sK σ) (hc : sCe σ n = -1) : sp3 σ (n + 1) = sp3 σ n := by
  have hf : ¬ falS σ n := fun q => q.1 hc
  unfold sp3
  refine mk_ext2 rfl (by rw [cnt_f (p := fun i => falS σ i) hf]) (fL_s ?_).symm rfl rfl (fL_s (if_neg hf).symm).symm (fL_s (if_neg hf).symm).symm
  rw [fL_lt hn]
  show sPu σ n - 2 * sLa σ n = sPu σ n + gainS σ n
  unfold gainS gainC
  rw [if_pos hc, ← aud_arith, Int32.add_zero]
theorem sp3_b {σ : PS} {n : Nat} (hn : n < sK σ) (h0 : ¬ sCe σ n = -1) (ht : truC σ n) : sp3 σ (n + 1) = setPu (sp3 σ n) (upd (sPu (sp3 σ n)) n (sPu (sp3 σ n) n + 3)) := by
  have hf : ¬ falS σ n := fun q => q.2 ht
  rw [sp3_Pu hn]
  have k : setPu (sp3 σ n) (upd (sPu (sp3 σ n)) n (sPu σ n - 2 * sLa σ n + 3)) = mkS σ (sSz σ + cntS (fun i => 0 < sLa σ i) (sK σ)) (sRv σ + cntS (fun i => falS σ i) n) (upd (fL n (gS σ) (fL (sK σ) (gQ σ) (sPu σ))) n (sPu σ n - 2 * sLa σ n + 3)) (fL (sK σ) (gZ σ) (sLa σ)) (fL (sK σ) (ownH σ) (sWe σ)) (fL n (gC σ) (sCe σ)) (fL n (gO σ) (sLo σ)) := rfl
  refine Eq.trans ?_ k.symm
  refine mk_ext2 rfl (by rw [cnt_f (p := fun i => falS σ i) hf]) (fL_u ?_).symm rfl rfl (fL_s (if_neg hf).symm).symm (fL_s (if_neg hf).symm).symm
  show sPu σ n - 2 * sLa σ n + 3 = sPu σ n + gainS σ n
  unfold gainS gainC
  rw [if_neg h0, if_pos ht, ← aud_arith]
theorem sp3_c {σ : PS} {n : Nat} (hn : n < sK σ) (h0 : ¬ sCe σ n = -1) (ht : ¬ truC σ n) : sp3 σ (n + 1) = setRv (setLo (setCe (setPu (sp3 σ n) (upd (sPu (sp3 σ n)) n (sPu (sp3 σ n) n + (-10)))) (upd (sCe (sp3 σ n)) n (-1))) (upd (sLo (sp3 σ n)) n (sLo (sp3 σ n) n + 1))) (sRv (sp3 σ n) + 1) := by
  have hf : falS σ n := ⟨h0, ht⟩
  have e3 : sLo (sp3 σ n) n = sLo σ n := (fL_n (n := n) (g := gO σ) (f := sLo σ) :)
  rw [sp3_Pu hn, e3]
  have k : setRv (setLo (setCe (setPu (sp3 σ n) (upd (sPu (sp3 σ n)) n (sPu σ n - 2 * sLa σ n + (-10)))) (upd (sCe (sp3 σ n)) n (-1))) (upd (sLo (sp3 σ n)) n (sLo σ n + 1))) (sRv (sp3 σ n) + 1) = mkS σ (sSz σ + cntS (fun i => 0 < sLa σ i) (sK σ)) (sRv σ + cntS (fun i => falS σ i) n + 1) (upd (fL n (gS σ) (fL (sK σ) (gQ σ) (sPu σ))) n (sPu σ n - 2 * sLa σ n + (-10))) (fL (sK σ) (gZ σ) (sLa σ)) (fL (sK σ) (ownH σ) (sWe σ)) (upd (fL n (gC σ) (sCe σ)) n (-1)) (upd (fL n (gO σ) (sLo σ)) n (sLo σ n + 1)) := rfl
  refine Eq.trans ?_ k.symm
  refine mk_ext2 rfl (by rw [cnt_t (p := fun i => falS σ i) hf, Int32.add_assoc]) (fL_u ?_).symm rfl rfl (fL_u (if_pos hf).symm).symm (fL_u (if_pos hf).symm).symm
  show sPu σ n - 2 * sLa σ n + (-10) = sPu σ n + gainS σ n
  unfold gainS gainC
  rw [if_neg h0, if_neg ht, ← aud_arith]
theorem sp3_k {B : Nat} {σ : PS} (hT : InvT B σ) : sp3 σ (sK σ) = audS σ := by
  rw [← aud_eq hT, aud_c]
  unfold sp3 audC
  refine mk_ext2 rfl rfl (funext fun j => ?_) rfl rfl rfl rfl
  by_cases c : j < sK σ
  · rw [fL_lt c, fL_lt c]
  · unfold fL
    rw [if_neg c, if_neg c, if_neg c]
theorem aud_fL {B : Nat} {σ : PS} (hT : InvT B σ) : audS σ = audC σ (sK σ) := by rw [← aud_eq hT, aud_c]
theorem invS_fL {B : Nat} {σ : PS} (hI : InvS B σ) {n : Nat} (hn : n ≤ sK σ) : InvS B (setWe σ (fL n (ownH σ) (sWe σ))) := by
  refine ⟨hI.1, hI.2.1, hI.2.2.1, fun i hi => ?_⟩
  show fL n (ownH σ) (sWe σ) i = -1 ∨ ∃ j : Nat, j < sK σ ∧ fL n (ownH σ) (sWe σ) i = nI j
  unfold fL
  by_cases c : i < n
  · rw [if_pos c]
    exact ownH_in hi
  · rw [if_neg c]
    exact hI.2.2.2 i hi
theorem invS_sp1 {B : Nat} {σ : PS} (hI : InvS B σ) (n : Nat) : InvS B (sp1 σ n) := hI
theorem invS_sp2 {B : Nat} {σ : PS} (hI : InvS B σ) {n : Nat} (hn : n ≤ sK σ) : InvS B (sp2 σ n) := invS_fL hI hn
theorem invS_sp3 {B : Nat} {σ : PS} (hI : InvS B σ) (n : Nat) : InvS B (sp3 σ n) := invS_fL hI (Nat.le_refl _)
/-! what p35 needs of a state besides: certificates' lengths, their hours, purses -/
def CerP (σ : PS) : Prop := ∀ i, i < sK σ → sCe σ i = -1 ∨ 0 ≤ sCe σ i
def HorP (σ : PS) : Prop := ∀ i, i < sK σ → ∃ a : Nat, a < 24 ∧ sAt σ i = nI a
def PurP (B : Nat) (σ : PS) : Prop := ∀ i, i < sK σ → -(100 + 40 * (B : Int)) ≤ (sPu σ i).toInt ∧ (sPu σ i).toInt ≤ 100 + 40 * (B : Int)
def InvQ (B : Nat) (σ : PS) : Prop := InvT B σ ∧ CerP σ ∧ HorP σ ∧ PurP B σ
theorem cer_lt {σ : PS} (h : CerP σ) {i : Nat} (hi : i < sK σ) (c : ¬ sCe σ i ≥ 0) : sCe σ i = -1 := by
  rcases h i hi with e | e
  · exact e
  · exact absurd e c
theorem cer_ge {σ : PS} {i : Nat} (c : sCe σ i ≥ 0) : ¬ sCe σ i = -1 := by
  intro q
  rw [q] at c
  exact absurd c (by decide)
theorem i_add {a b : Int32} (h1 : -(2147483648 : Int) ≤ a.toInt + b.toInt) (h2 : a.toInt + b.toInt < 2147483648) : (a + b).toInt = a.toInt + b.toInt := by
  rw [Int32.toInt_add]
  exact Int.bmod_eq_of_le (by simpa using h1) (by simpa using h2)
theorem i_sub {a b : Int32} (h1 : -(2147483648 : Int) ≤ a.toInt - b.toInt) (h2 : a.toInt - b.toInt < 2147483648) : (a - b).toInt = a.toInt - b.toInt := by
  rw [Int32.toInt_sub]
  exact Int.bmod_eq_of_le (by simpa using h1) (by simpa using h2)
theorem gain_in {B : Nat} {σ : PS} (hT : InvT B σ) {i : Nat} (hi : i < sK σ) : -28 ≤ (gainS σ i).toInt ∧ (gainS σ i).toInt ≤ 3 := by
  obtain ⟨-, -, ⟨c, hc, e⟩⟩ := hT.2.1 i hi
  have key : ∀ c : Nat, c < 10 → ∀ g : Int32, g = 0 ∨ g = 3 ∨ g = -10 → -28 ≤ (g - 2 * nI c).toInt ∧ (g - 2 * nI c).toInt ≤ 3 := by
    intro c hc g hg
    have k1 : ∀ c : Nat, c < 10 → (-28 ≤ ((0 : Int32) - 2 * nI c).toInt ∧ ((0 : Int32) - 2 * nI c).toInt ≤ 3) ∧ (-28 ≤ ((3 : Int32) - 2 * nI c).toInt ∧ ((3 : Int32) - 2 * nI c).toInt ≤ 3) ∧ (-28 ≤ ((-10 : Int32) - 2 * nI c).toInt ∧ ((-10 : Int32) - 2 * nI c).toInt ≤ 3) := by decide +kernel
    rcases hg with h | h | h <;> rw [h]
    · exact (k1 c hc).1
    · exact (k1 c hc).2.1
    · exact (k1 c hc).2.2
  unfold gainS
  rw [e]
  refine key c (by omega) _ ?_
  unfold gainC
  by_cases c1 : sCe σ i = -1
  · rw [if_pos c1]
    exact Or.inl rfl
  · rw [if_neg c1]
    by_cases c2 : sCe σ i = honsS σ i (sAt σ i)
    · rw [if_pos c2]
      exact Or.inr (Or.inl rfl)
    · rw [if_neg c2]
      exact Or.inr (Or.inr rfl)
theorem invQ_le {B C : Nat} {σ : PS} (h : InvQ B σ) (hBC : B ≤ C) (hC : C ≤ 40000) : InvQ C σ :=
  ⟨invT_le h.1 hBC hC, h.2.1, h.2.2.1, fun i hi => ⟨by have := (h.2.2.2 i hi).1; omega, by have := (h.2.2.2 i hi).2; omega⟩⟩
theorem invQ_aud {B : Nat} {σ : PS} (h : InvQ B σ) (hB : B + 1 ≤ 40000) : InvQ (B + 1) (audS σ) := by
  obtain ⟨hT, hC, hH, hP⟩ := h
  refine ⟨invT_le (invT_aud hT) (Nat.le_succ B) hB, ?_, ?_, ?_⟩
  · rw [aud_fL hT]
    intro i hi
    have hi : i < sK σ := hi
    show fL (sK σ) (gC σ) (sCe σ) i = -1 ∨ 0 ≤ fL (sK σ) (gC σ) (sCe σ) i
    rw [fL_lt hi]
    unfold gC
    by_cases c : falS σ i
    · rw [if_pos c]
      exact Or.inl rfl
    · rw [if_neg c]
      exact hC i hi
  · rw [aud_fL hT]
    exact hH
  · rw [aud_fL hT]
    intro i hi
    have hi : i < sK σ := hi
    show -(100 + 40 * ((B + 1 : Nat) : Int)) ≤ (fL (sK σ) (gS σ) (sPu σ) i).toInt ∧ (fL (sK σ) (gS σ) (sPu σ) i).toInt ≤ 100 + 40 * ((B + 1 : Nat) : Int)
    rw [fL_lt hi]
    unfold gS
    obtain ⟨g1, g2⟩ := gain_in hT hi
    obtain ⟨p1, p2⟩ := hP i hi
    rw [i_add (by omega) (by omega)]
    omega
theorem invQ_hr {B : Nat} {σ : PS} (h : InvQ B σ) (hB : B + 1 ≤ 40000) : InvQ (B + 1) (setHr σ (sHr σ + 1)) :=
  ⟨invT_hr h.1 hB, h.2.1, h.2.2.1, fun i hi => ⟨by have := (h.2.2.2 i hi).1; show -(100 + 40 * ((B + 1 : Nat) : Int)) ≤ (sPu σ i).toInt; omega, by have := (h.2.2.2 i hi).2; show (sPu σ i).toInt ≤ 100 + 40 * ((B + 1 : Nat) : Int); omega⟩⟩
theorem invQ_hour {B : Nat} {σ : PS} (h : InvQ B σ) (hB : B + 1 ≤ 40000) : InvQ (B + 1) (hourS σ) := by
  unfold hourS
  by_cases c : ¬ dayOf (setHr σ (sHr σ + 1)) = 12
  · rw [if_pos c]
    exact invQ_hr h hB
  · rw [if_neg c]
    have h2 : InvQ B (setHr σ (sHr σ + 1)) ∨ True := Or.inr trivial
    have hT := invT_hour h.1 hB
    unfold hourS at hT
    rw [if_neg c] at hT
    have hT1 := invT_hr h.1 hB
    refine ⟨hT, ?_, ?_, ?_⟩
    · rw [aud_fL hT1]
      intro i hi
      have hi : i < sK σ := hi
      show fL (sK σ) (gC (setHr σ (sHr σ + 1))) (sCe σ) i = -1 ∨ 0 ≤ fL (sK σ) (gC (setHr σ (sHr σ + 1))) (sCe σ) i
      rw [fL_lt hi]
      unfold gC
      by_cases c : falS (setHr σ (sHr σ + 1)) i
      · rw [if_pos c]
        exact Or.inl rfl
      · rw [if_neg c]
        exact h.2.1 i hi
    · rw [aud_fL hT1]
      exact h.2.2.1
    · rw [aud_fL hT1]
      intro i hi
      have hi : i < sK σ := hi
      show -(100 + 40 * ((B + 1 : Nat) : Int)) ≤ (fL (sK σ) (gS (setHr σ (sHr σ + 1))) (sPu σ) i).toInt ∧ (fL (sK σ) (gS (setHr σ (sHr σ + 1))) (sPu σ) i).toInt ≤ 100 + 40 * ((B + 1 : Nat) : Int)
      rw [fL_lt hi]
      show -(100 + 40 * ((B + 1 : Nat) : Int)) ≤ (sPu σ i + gainS (setHr σ (sHr σ + 1)) i).toInt ∧ (sPu σ i + gainS (setHr σ (sHr σ + 1)) i).toInt ≤ 100 + 40 * ((B + 1 : Nat) : Int)
      obtain ⟨g1, g2⟩ := gain_in hT1 (i := i) hi
      obtain ⟨p1, p2⟩ := h.2.2.2 i hi
      have hBB := h.1.1.2.1
      rw [i_add (by omega) (by omega)]
      omega
theorem invQ_passN {B : Nat} {σ : PS} (h : InvQ B σ) : ∀ n, B + n ≤ 40000 → InvQ (B + n) (passN σ n) := by
  intro n
  induction n with
  | zero => exact fun _ => h
  | succ n ih => exact fun hn => invQ_hour (ih (by omega)) (by omega)
