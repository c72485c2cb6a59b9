/-! WHAT THE LAW ASKS, of the state alone -/
theorem amp_spec {p : Nat → Prop} [DecidablePred p] {f : Nat → Int32} (n : Nat) (hn : n < 2 ^ 31) : (ampS p f n = -1 ∧ ∀ j, j < n → ¬ p j) ∨ ∃ b, b < n ∧ ampS p f n = nI b ∧ p b ∧ ∀ j, j < n → p j → f j ≤ f b ∧ (j < b → f j < f b) := by
  induction n with
  | zero => exact Or.inl ⟨rfl, fun j h => absurd h (Nat.not_lt_zero j)⟩
  | succ n ih =>
    by_cases c : p n
    · have e : ampS p f (n + 1) = _ := if_pos c
      rcases ih (by omega) with ⟨h1, h2⟩ | ⟨b, hb, h1, h2, h3⟩
      · refine Or.inr ⟨n, Nat.lt_succ_self n, by rw [e, if_pos h1], c, fun j hj hp => ?_⟩
        rcases Nat.lt_or_ge j n with d | d
        · exact absurd hp (h2 j d)
        · rw [show j = n by omega]
          exact ⟨Int32.le_refl _, fun z => absurd z (Nat.lt_irrefl n)⟩
      · have e2 : ¬ ampS p f n = -1 := by rw [h1]; exact nI_m1 (by omega)
        have e3 : (ampS p f n).toNatClampNeg = b := by rw [h1]; exact nI_clamp (by omega)
        by_cases d : f n ≤ f b
        · refine Or.inr ⟨b, by omega, by rw [e, if_neg e2, e3, if_pos d, h1], h2, fun j hj hp => ?_⟩
          rcases Nat.lt_or_ge j n with g | g
          · exact h3 j g hp
          · rw [show j = n by omega]
            exact ⟨d, fun z => by omega⟩
        · have d2 : f b < f n := Int32.not_le.mp d
          refine Or.inr ⟨n, Nat.lt_succ_self n, by rw [e, if_neg e2, e3, if_neg d], c, fun j hj hp => ?_⟩
          rcases Nat.lt_or_ge j n with g | g
          · have h4 := Int32.lt_of_le_of_lt (h3 j g hp).1 d2
            exact ⟨Int32.le_of_lt h4, fun _ => h4⟩
          · rw [show j = n by omega]
            exact ⟨Int32.le_refl _, fun z => absurd z (Nat.lt_irrefl n)⟩
    · have e : ampS p f (n + 1) = ampS p f n := if_neg c
      rw [e]
      rcases ih (by omega) with ⟨h1, h2⟩ | ⟨b, hb, h1, h2, h3⟩
      · refine Or.inl ⟨h1, fun j hj hp => ?_⟩
        rcases Nat.lt_or_ge j n with d | d
        · exact h2 j d hp
        · rw [show j = n by omega] at hp
          exact c hp
      · refine Or.inr ⟨b, by omega, h1, h2, fun j hj hp => ?_⟩
        rcases Nat.lt_or_ge j n with d | d
        · exact h3 j d hp
        · rw [show j = n by omega] at hp
          exact absurd hp c
theorem amx_spec {f : Nat → Int32} {n : Nat} (h0 : 0 < n) (hn : n < 2 ^ 31) : ∃ b, b < n ∧ amxS f n = nI b ∧ ∀ j, j < n → f j ≤ f b ∧ (j < b → f j < f b) := by
  rcases amp_spec (p := fun _ => True) (f := f) n hn with ⟨-, h⟩ | ⟨b, hb, h1, -, h3⟩
  · exact absurd trivial (h 0 h0)
  · exact ⟨b, hb, h1, fun j hj => h3 j hj trivial⟩
/-- whose hat is worn by one of the first -/
def wnF (σ : PS) : Nat → Nat → Int32
  | 0 => fun _ => 0
  | k + 1 => if sWe σ k = -1 then wnF σ k else upd (wnF σ k) (sWe σ k).toNatClampNeg 1
theorem wnF_n {σ : PS} {k : Nat} (h : sWe σ k = -1) : wnF σ (k + 1) = wnF σ k := if_pos h
theorem wnF_s {σ : PS} {k j : Nat} (hj : j < 2 ^ 31) (h : sWe σ k = nI j) : wnF σ (k + 1) = upd (wnF σ k) j 1 := by
  have e : wnF σ (k + 1) = _ := if_neg (by rw [h]; exact nI_m1 hj)
  rw [e, h, nI_clamp hj]
theorem wnF_c {B : Nat} {σ : PS} (hI : InvS B σ) (j : Nat) (hj : j < 2 ^ 31) : ∀ k, k ≤ sK σ → (wnF σ k j = 1 ∧ ∃ i, i < k ∧ sWe σ i = nI j) ∨ (wnF σ k j = 0 ∧ ∀ i, i < k → ¬ sWe σ i = nI j) := by
  intro k
  induction k with
  | zero => exact fun _ => Or.inr ⟨rfl, fun i h => absurd h (Nat.not_lt_zero i)⟩
  | succ k ih =>
    intro hk
    have h10 := hI.1
    rcases wear_cases hI (i := k) (by omega) with h | ⟨w, hw, h⟩
    · rw [wnF_n h]
      rcases ih (by omega) with ⟨h1, i, hi, h2⟩ | ⟨h1, h2⟩
      · exact Or.inl ⟨h1, i, by omega, h2⟩
      · refine Or.inr ⟨h1, fun i hi => ?_⟩
        rcases Nat.lt_or_ge i k with d | d
        · exact h2 i d
        · rw [show i = k by omega, h]
          exact fun q => nI_m1 hj q.symm
    · rw [wnF_s (by omega) h]
      by_cases c : j = w
      · subst c
        rw [pk_us]
        exact Or.inl ⟨rfl, k, Nat.lt_succ_self k, h⟩
      · rw [pk_un c]
        rcases ih (by omega) with ⟨h1, i, hi, h2⟩ | ⟨h1, h2⟩
        · exact Or.inl ⟨h1, i, by omega, h2⟩
        · refine Or.inr ⟨h1, fun i hi => ?_⟩
          rcases Nat.lt_or_ge i k with d | d
          · exact h2 i d
          · rw [show i = k by omega, h]
            exact fun q => c ((nI_eq (by omega) hj).mp q).symm
/-- a hat that one wears isn't worn by one ahead -/
theorem wn_0 {B : Nat} {σ : PS} (hT : InvT B σ) {k j : Nat} (hk : k < sK σ) (hj : j < sK σ) (h : sWe σ k = nI j) : wnF σ k j = 0 := by
  have h10 := hT.1.1
  rcases wnF_c hT.1 j (by omega) k (by omega) with ⟨-, i, hi, h2⟩ | ⟨h1, -⟩
  · rcases hT.2.2.2.1 i k (by omega) hk (by rw [h2, h]) with e | e
    · rw [h2] at e
      exact absurd e (nI_m1 (by omega))
    · omega
  · exact h1
theorem lent_0 {B : Nat} {σ : PS} (hT : InvT B σ) {k : Nat} (hk : k < sK σ) (h : wnF σ (sK σ) k = 0) : ¬ lentS σ k := by
  have h10 := hT.1.1
  rintro ⟨j, hj, -, hw⟩
  rcases wnF_c hT.1 k (by omega) (sK σ) (Nat.le_refl _) with ⟨h1, -⟩ | ⟨-, h2⟩
  · rw [h1] at h
    exact absurd h (by decide)
  · exact h2 j hj hw
theorem lent_1 {B : Nat} {σ : PS} (hT : InvT B σ) {k : Nat} (hk : k < sK σ) (h : ¬ wnF σ (sK σ) k = 0) (hw : ¬ sWe σ k = nI k) : lentS σ k := by
  have h10 := hT.1.1
  rcases wnF_c hT.1 k (by omega) (sK σ) (Nat.le_refl _) with ⟨-, i, hi, h2⟩ | ⟨h1, -⟩
  · exact ⟨i, hi, fun q => hw (by rw [q] at h2; exact h2), h2⟩
  · exact absurd h1 h
theorem lent_own {B : Nat} {σ : PS} (hT : InvT B σ) {k : Nat} (hk : k < sK σ) (hw : sWe σ k = nI k) : ¬ lentS σ k := by
  have h10 := hT.1.1
  rintro ⟨j, hj, hne, h2⟩
  rcases hT.2.2.2.1 j k hj hk (by rw [h2, hw]) with e | e
  · rw [h2] at e
    exact nI_m1 (by omega) e
  · exact hne e
theorem ha0_ne {B : Nat} {σ : PS} (hT : InvT B σ) {k j : Nat} (hk : k < sK σ) (hj : j < sK σ) (h : sWe σ k = nI j) : ¬ sHa σ j = 0 := hT.2.2.1 k j hk hj h
theorem nat_ge0 {B : Nat} {σ : PS} (hT : InvT B σ) {i : Nat} (hi : i < sK σ) (h : Int32) : ∃ m c : Nat, m ≤ 500 ∧ c ≤ 9 ∧ natSh (sHe σ i + wornH σ i) h = nI m ∧ sLa σ i = nI c ∧ 3 * sLa σ i = nI (3 * c) := by
  obtain ⟨a, ha, e1⟩ := he_nI hT hi
  obtain ⟨b, hb, e2⟩ := worn_nI hT hi
  obtain ⟨-, -, ⟨c, hc, e3⟩⟩ := hT.2.1 i hi
  obtain ⟨m, hm, e4⟩ := natSh_nI (x := sHe σ i + wornH σ i) h (a := a + b) (by omega) (by rw [e1, e2, nI_add])
  have key : ∀ c : Nat, c < 10 → (3 : Int32) * nI c = nI (3 * c) := by decide +kernel
  exact ⟨m, c, hm, hc, e4, e3, by rw [e3]; exact key c (by omega)⟩
theorem sh_lamp {B : Nat} {σ : PS} (hT : InvT B σ) {i : Nat} (hi : i < sK σ) (h : Int32) : ¬ shadS σ i h < 3 * sLa σ i := by
  obtain ⟨m, c, hm, hc, e1, -, e3⟩ := nat_ge0 hT hi h
  unfold shadS
  rw [e1, e3, nI_add]
  exact nI_nlt (by omega) (by omega)
theorem sh_own {B : Nat} {σ : PS} (hI : InvS B σ) {i : Nat} (hi : i < sK σ) (hw : sWe σ i = nI i) (hl : sLa σ i = 0) (h : Int32) : shadS σ i h = honsS σ i h := by
  unfold shadS honsS
  rw [wornH_s hI hi hw, hl]
  show natSh _ h + 3 * 0 = natSh _ h
  rw [Int32.mul_zero, Int32.add_zero]
theorem b01_or (p : Prop) [Decidable p] : b01 p = 0 ∨ b01 p = 1 := by
  by_cases c : p
  · exact Or.inr (b01_t c)
  · exact Or.inl (b01_f c)
/-! the best hat -/
theorem with_eq (σ : PS) (i o : Nat) (ho : o < 2 ^ 31) : shadS (bwS σ i o) i (dayOf (bwS σ i o)) = hatShS σ i o + 3 * sLa σ i := by
  have e : sWe (bwS σ i o) i = nI o := pk_us
  have e2 : wornH (bwS σ i o) i = sHa σ o := by
    unfold wornH
    rw [e, if_neg (nI_m1 ho), nI_clamp ho]
  unfold shadS
  rw [e2]
  rfl
theorem hat_nI {B : Nat} {σ : PS} (hT : InvT B σ) {i o : Nat} (hi : i < sK σ) (ho : o < sK σ) : ∃ m, m ≤ 500 ∧ hatShS σ i o = nI m := by
  obtain ⟨a, ha, e1⟩ := he_nI hT hi
  obtain ⟨-, ⟨b, hb, e2⟩, -⟩ := hT.2.1 o ho
  exact natSh_nI (x := sHe σ i + sHa σ o) (dayOf σ) (a := a + b) (by omega) (by rw [e1, e2, nI_add])
theorem with_c {B : Nat} {σ : PS} (hT : InvT B σ) {i o b : Nat} (hi : i < sK σ) (ho : o < sK σ) (hb : b < sK σ) (h1 : hatShS σ i o ≤ hatShS σ i b) (h2 : o < b → hatShS σ i o < hatShS σ i b) : ¬ shadS (bwS σ i o) i (dayOf (bwS σ i o)) > shadS (bwS σ i b) i (dayOf (bwS σ i b)) ∧ (shadS (bwS σ i o) i (dayOf (bwS σ i o)) = shadS (bwS σ i b) i (dayOf (bwS σ i b)) → ¬ nI o < nI b) := by
  have h10 := hT.1.1
  obtain ⟨x, hx, e1⟩ := hat_nI hT hi ho
  obtain ⟨y, hy, e2⟩ := hat_nI hT hi hb
  obtain ⟨-, c, -, hc, -, -, e3⟩ := nat_ge0 hT hi 0
  rw [with_eq σ i o (by omega), with_eq σ i b (by omega), e1, e2, e3, nI_add, nI_add]
  rw [e1, e2] at h1 h2
  have hxy : x ≤ y := (nI_leI (by omega) (by omega)).mp h1
  refine ⟨nI_nlt (by omega) (by omega), fun q => ?_⟩
  have hq : x = y := by
    have := (nI_eq (by omega) (by omega)).mp q
    omega
  intro z
  have hob : o < b := (nI_ltI (by omega) (by omega)).mp z
  have := (nI_ltI (by omega) (by omega)).mp (h2 hob)
  omega
theorem best_c {B : Nat} {σ : PS} (hT : InvT B σ) {i : Nat} (hi : i < sK σ) : (bestS σ i = -1 ∧ ∀ o, o < sK σ → ¬ canM σ i o) ∨ ∃ b, b < sK σ ∧ bestS σ i = nI b ∧ canM σ i b ∧ ∀ o, o < sK σ → canM σ i o → hatShS σ i o ≤ hatShS σ i b ∧ (o < b → hatShS σ i o < hatShS σ i b) := by
  have h10 := hT.1.1
  rcases amp_spec (p := fun o => canB σ i o) (f := fun o => hatShS σ i o) (sK σ) (by omega) with ⟨h1, h2⟩ | ⟨b, hb, h1, h2, h3⟩
  · exact Or.inl ⟨h1, fun o ho q => h2 o ho ((canM_iff hT hi ho).mp q)⟩
  · exact Or.inr ⟨b, hb, h1, (canM_iff hT hi hb).mpr h2, fun o ho q => h3 o ho ((canM_iff hT hi ho).mp q)⟩
/-! arithmetic of whole numbers that wrap around -/
theorem add_sub_c (a b : Int32) : a + b - b = a := by
  rw [Int32.sub_eq_add_neg, Int32.add_assoc, Int32.add_right_neg, Int32.add_zero]
theorem sub_11 (a b : Int32) : a + 1 - (b + 1) = a - b := by
  rw [Int32.sub_eq_add_neg, Int32.neg_add, Int32.sub_eq_add_neg (-b) 1, Int32.sub_eq_add_neg a b, Int32.add_assoc, Int32.add_comm (-b) (-1), ← Int32.add_assoc 1, Int32.add_right_neg, Int32.zero_add]
theorem sub_10 (a b : Int32) : a + 1 - b = a - b + 1 := by
  rw [Int32.sub_eq_add_neg, Int32.sub_eq_add_neg, Int32.add_assoc, Int32.add_comm 1, ← Int32.add_assoc]
theorem noon_0 (x : Int32) : natSh x 12 + 3 * 0 = 0 := by
  have e : natSh x 12 = x * 0 / 2 := by
    unfold natSh
    rw [if_neg (by decide), if_pos (by decide)]
    rfl
  rw [e, Int32.mul_zero, Int32.mul_zero]
  decide
/-! hours go by -/
theorem unt_nat {B : Nat} {σ : PS} (hI : InvS B σ) : ∃ h u : Nat, h ≤ B ∧ B ≤ 40000 ∧ sHr σ = nI h ∧ dayOf σ = nI (h % 24) ∧ untS σ = nI u ∧ 1 ≤ u ∧ u ≤ 24 ∧ (h + u) % 24 = 12 ∧ ∀ d, 1 ≤ d → d < u + 24 → (h + d) % 24 = 12 → d = u := by
  obtain ⟨-, hB, ⟨h, h1, h2⟩, -⟩ := id hI
  have hd : dayOf σ = nI (h % 24) := by
    unfold dayOf
    rw [h2]
    exact pk_rem (d := 24) (by omega) (by omega) (by omega)
  by_cases c : h % 24 < 12
  · refine ⟨h, 12 - h % 24, h1, hB, h2, hd, ?_, by omega, by omega, by omega, fun d d1 d2 d3 => by omega⟩
    unfold untS
    rw [hd, if_pos (show nI (h % 24) < (12 : Int32) from nI_lt (b := 12) c (by omega))]
    exact pk_sub (a := 12) (by omega)
  · refine ⟨h, 36 - h % 24, h1, hB, h2, hd, ?_, by omega, by omega, by omega, fun d d1 d2 d3 => by omega⟩
    unfold untS
    rw [hd, if_neg (show ¬ nI (h % 24) < (12 : Int32) from nI_nlt (b := 12) (by omega) (by omega))]
    exact pk_sub (a := 36) (by omega)
theorem day_hr {τ : PS} {x : Int32} {h : Nat} (e : x = nI h) (hh : h < 2 ^ 31) : dayOf (setHr τ x) = nI (h % 24) := by
  show x - x / 24 * 24 = _
  rw [e]
  exact pk_rem (d := 24) hh (by omega) (by omega)
theorem hour_no {τ : PS} {h : Nat} (e : sHr τ = nI h) (hh : h + 1 < 2 ^ 31) (c : ¬ (h + 1) % 24 = 12) : hourS τ = setHr τ (nI (h + 1)) := by
  have e2 : sHr τ + 1 = nI (h + 1) := by rw [e]; exact nI_add h 1
  have k : hourS τ = setHr τ (sHr τ + 1) := if_pos (by
    rw [day_hr e2 hh]
    exact fun q => c ((nI_eq (a := (h + 1) % 24) (b := 12) (by omega) (by omega)).mp q))
  rw [k, e2]
theorem hour_yes {τ : PS} {h : Nat} (e : sHr τ = nI h) (hh : h + 1 < 2 ^ 31) (c : (h + 1) % 24 = 12) : hourS τ = audS (setHr τ (nI (h + 1))) := by
  have e2 : sHr τ + 1 = nI (h + 1) := by rw [e]; exact nI_add h 1
  have k : hourS τ = audS (setHr τ (sHr τ + 1)) := if_neg (fun q => q (by
    rw [day_hr e2 hh, c]
    rfl))
  rw [k, e2]
/-- ahead of the audit -/
theorem pass_lo {B : Nat} {σ : PS} {h u : Nat} (hB : h ≤ B) (hB2 : B ≤ 40000) (e : sHr σ = nI h) (hu : ∀ d, 1 ≤ d → d < u + 24 → (h + d) % 24 = 12 → d = u) (hu24 : u ≤ 24) : ∀ d, d < u → passN σ d = setHr σ (nI (h + d)) := by
  intro d
  induction d with
  | zero =>
    intro _
    show σ = setHr σ (nI (h + 0))
    rw [Nat.add_zero, ← e]
  | succ d ih =>
    intro hd
    show hourS (passN σ d) = _
    rw [ih (by omega), hour_no (τ := setHr σ (nI (h + d))) (h := h + d) rfl (by omega) (fun q => absurd (hu (d + 1) (by omega) (by omega) q) (by omega))]
    rw [show h + d + 1 = h + (d + 1) by omega]
theorem hr_aud (τ : PS) : sHr (audS τ) = sHr τ := by
  unfold audS
  refine (k_judg _ _).2.1.trans ?_
  rw [hats_c]
  exact (k_seiz _ _).2.1
theorem set_hr {τ : PS} {x : Int32} (e : sHr τ = x) : setHr τ x = τ := by
  rw [← e]
/-- the audit, and behind it -/
theorem pass_hi {B : Nat} {σ : PS} {h u : Nat} (hB : h ≤ B) (hB2 : B ≤ 40000) (e : sHr σ = nI h) (hu1 : 1 ≤ u) (hu24 : u ≤ 24) (h12 : (h + u) % 24 = 12) (hu : ∀ d, 1 ≤ d → d < u + 24 → (h + d) % 24 = 12 → d = u) : ∀ d, d < 24 → passN σ (u + d) = setHr (audS (setHr σ (nI (h + u)))) (nI (h + u + d)) := by
  intro d
  induction d with
  | zero =>
    intro _
    obtain ⟨v, rfl⟩ : ∃ v, u = v + 1 := ⟨u - 1, by omega⟩
    show hourS (passN σ v) = _
    rw [pass_lo hB hB2 e hu hu24 v (by omega), hour_yes (τ := setHr σ (nI (h + v))) (h := h + v) rfl (by omega) (by omega)]
    rw [show h + v + 1 = h + (v + 1) by omega]
    exact (set_hr (τ := audS (setHr σ (nI (h + (v + 1))))) (hr_aud _)).symm
  | succ d ih =>
    intro hd
    show hourS (passN σ (u + d)) = _
    rw [ih (by omega), hour_no (τ := setHr (audS (setHr σ (nI (h + u)))) (nI (h + u + d))) (h := h + u + d) rfl (by omega) (fun q => absurd (hu (u + d + 1) (by omega) (by omega) (by rw [← q]; congr 1; omega)) (by omega))]
    rw [show h + u + d + 1 = h + u + (d + 1) by omega]
theorem aud_at {B : Nat} {σ : PS} (hT : InvT B σ) {i : Nat} (hi : i < sK σ) : sPu (audS σ) i = sPu σ i + gainS σ i ∧ sLa (audS σ) i = 0 ∧ sWe (audS σ) i = ownH σ i ∧ sCe (audS σ) i = gC σ i := by
  rw [aud_fL hT]
  exact ⟨(fL_lt (g := gS σ) (f := sPu σ) hi :), (fL_lt (g := gZ σ) (f := sLa σ) hi :), (fL_lt (g := ownH σ) (f := sWe σ) hi :), (fL_lt (g := gC σ) (f := sCe σ) hi :)⟩
theorem aud_so {B : Nat} {σ : PS} (hT : InvT B σ) : sK (audS σ) = sK σ ∧ sHr (audS σ) = sHr σ ∧ sHe (audS σ) = sHe σ ∧ sHa (audS σ) = sHa σ ∧ sAt (audS σ) = sAt σ ∧ sRv (audS σ) = sRv σ + cntS (fun i => falS σ i) (sK σ) := by
  rw [aud_fL hT]
  exact ⟨rfl, rfl, rfl, rfl, rfl, rfl⟩
theorem worn_own {B : Nat} {σ τ : PS} (hT : InvT B σ) {i : Nat} (hi : i < sK σ) (hw : sWe τ i = ownH σ i) (ha : sHa τ = sHa σ) : wornH τ i = sHa σ i := by
  have h10 := hT.1.1
  unfold wornH
  rw [hw, ha]
  unfold ownH
  by_cases c : 0 < sHa σ i
  · rw [if_pos c, if_neg (nI_m1 (by omega)), nI_clamp (by omega)]
  · rw [if_neg c, if_pos rfl]
    obtain ⟨-, ⟨b, hb, e⟩, -⟩ := hT.2.1 i hi
    rcases Nat.eq_zero_or_pos b with h | h
    · rw [e, h]
      rfl
    · exact absurd (by rw [e]; exact nI_lt (a := 0) h (by omega)) c
theorem hr_T {B : Nat} {σ : PS} (hT : InvT B σ) {h u : Nat} (hB : h ≤ B) (hu : u ≤ 24) (hB24 : B + 24 ≤ 40000) : InvT (B + 24) (setHr σ (nI (h + u))) :=
  ⟨⟨hT.1.1, hB24, ⟨h + u, by omega, rfl⟩, hT.1.2.2.2⟩, hT.2⟩
theorem home_sh {B : Nat} {σ : PS} (hT : InvT B σ) {h u : Nat} (hB : h ≤ B) (hu : u ≤ 24) (hB24 : B + 24 ≤ 40000) {i : Nat} (hi : i < sK σ) (y x : Int32) : shadS (setHr (audS (setHr σ (nI (h + u)))) y) i x = honsS σ i x := by
  have hT2 := hr_T hT hB hu hB24
  obtain ⟨-, a2, a3, -⟩ := aud_at hT2 (i := i) hi
  obtain ⟨b1, -, b3, b4, -, -⟩ := aud_so hT2
  have e1 : wornH (setHr (audS (setHr σ (nI (h + u)))) y) i = sHa σ i := worn_own hT hi (show sWe (audS (setHr σ (nI (h + u)))) i = ownH σ i from a3) b4
  unfold shadS honsS
  rw [e1]
  show natSh (sHe (audS (setHr σ (nI (h + u)))) i + sHa σ i) x + 3 * sLa (audS (setHr σ (nI (h + u)))) i = natSh (sHe σ i + sHa σ i) x
  rw [a2, b3, Int32.mul_zero, Int32.add_zero]
theorem ahead_pass {B : Nat} {σ : PS} (hT : InvT B σ) (hB24 : B + 24 ≤ 40000) {i d : Nat} (hi : i < sK σ) (hd : d < 24) : shadS (passN σ d) i (dayOf (passN σ d)) = aheadS σ i (nI d) := by
  obtain ⟨h, u, hB, hB2, e1, e2, e3, u1, u24, h12, hu⟩ := unt_nat hT.1
  have hday : (dayOf σ + nI d) - (dayOf σ + nI d) / 24 * 24 = nI ((h + d) % 24) := by
    rw [← day_add hT.1 hd, e1, nI_add]
    exact pk_rem (d := 24) (by omega) (by omega) (by omega)
  unfold aheadS
  rw [hday, e3]
  rcases Nat.lt_or_ge d u with c | c
  · rw [if_pos (nI_lt c (by omega)), pass_lo hB hB2 e1 hu u24 d c, day_hr rfl (by omega)]
    rfl
  · rw [if_neg (nI_nlt c (by omega))]
    obtain ⟨k, rfl⟩ : ∃ k, d = u + k := ⟨d - u, by omega⟩
    rw [pass_hi hB hB2 e1 u1 u24 h12 hu k (by omega), day_hr rfl (by omega), home_sh hT hB u24 hB24 hi, show h + (u + k) = h + u + k by omega]
theorem pass_u {B : Nat} {σ : PS} (hT : InvT B σ) {h u : Nat} (hB : h ≤ B) (hB2 : B ≤ 40000) (e : sHr σ = nI h) (hu1 : 1 ≤ u) (hu24 : u ≤ 24) (h12 : (h + u) % 24 = 12) (hu : ∀ d, 1 ≤ d → d < u + 24 → (h + d) % 24 = 12 → d = u) : passN σ u = audS (setHr σ (nI (h + u))) := by
  have k := pass_hi hB hB2 e hu1 hu24 h12 hu 0 (by omega)
  rw [Nat.add_zero, Nat.add_zero] at k
  rw [k]
  exact set_hr (hr_aud _)
/-- what the audit leaves -/
theorem aud_all {B : Nat} {σ : PS} (hT : InvT B σ) (hB24 : B + 24 ≤ 40000) : ∃ u, 1 ≤ u ∧ u ≤ 24 ∧ untS σ = nI u ∧ sRv (passN σ u) - sRv σ = certsS σ - honOS σ ∧ dayOf (passN σ u) = 12 ∧ certsS (passN σ u) = honOS σ ∧ honOS (passN σ u) = honOS σ ∧
    ∀ i, i < sK σ → sPu (passN σ u) i = sPu σ i + gainS σ i ∧ sLa (passN σ u) i = 0 ∧ sWe (passN σ u) i = ownH σ i ∧ ¬ lentS (passN σ u) i ∧ shadS (passN σ u) i (dayOf (passN σ u)) = 0 ∧ sHa (passN σ u) i = sHa σ i := by
  obtain ⟨h, u, hB, hB2, e1, e2, e3, u1, u24, h12, hu⟩ := unt_nat hT.1
  have hT2 := hr_T hT hB u24 hB24
  have hp := pass_u hT hB hB2 e1 u1 u24 h12 hu
  obtain ⟨b1, b2, b3, b4, b5, b6⟩ := aud_so hT2
  have h10 := hT.1.1
  have hat := fun i (hi : i < sK σ) => aud_at hT2 (i := i) hi
  have hday : dayOf (passN σ u) = 12 := by
    rw [hp]
    show sHr (audS (setHr σ (nI (h + u)))) - sHr (audS (setHr σ (nI (h + u)))) / 24 * 24 = 12
    rw [b2]
    show nI (h + u) - nI (h + u) / nI 24 * nI 24 = 12
    rw [pk_rem (d := 24) (by omega) (by omega) (by omega), h12]
    rfl
  have csub : ∀ n, cntS (fun i => hasC σ i) n - cntS (fun i => hasC σ i ∧ truC σ i) n = cntS (fun i => falS σ i) n := by
    intro n
    induction n with
    | zero =>
      show (0 : Int32) - 0 = 0
      decide
    | succ n ih =>
      by_cases c1 : hasC σ n
      · by_cases c2 : truC σ n
        · rw [cnt_t (p := fun i => hasC σ i) c1, cnt_t (p := fun i => hasC σ i ∧ truC σ i) ⟨c1, c2⟩, cnt_f (p := fun i => falS σ i) (fun q => q.2 c2), ← ih]
          exact sub_11 _ _
        · rw [cnt_t (p := fun i => hasC σ i) c1, cnt_f (p := fun i => hasC σ i ∧ truC σ i) (fun q => c2 q.2), cnt_t (p := fun i => falS σ i) ⟨c1, c2⟩, ← ih]
          exact sub_10 _ _
      · rw [cnt_f (p := fun i => hasC σ i) c1, cnt_f (p := fun i => hasC σ i ∧ truC σ i) (fun q => c1 q.1), cnt_f (p := fun i => falS σ i) (fun q => c1 q.1), ← ih]
  have hk : sK (passN σ u) = sK σ := k_pass σ u
  have hce : ∀ i, i < sK σ → sCe (passN σ u) i = if falS σ i then -1 else sCe σ i := fun i hi => by
    rw [hp, (hat i hi).2.2.2]
    rfl
  have hhas : ∀ i, i < sK σ → (hasC (passN σ u) i ↔ hasC σ i ∧ truC σ i) := fun i hi => by
    unfold hasC
    rw [hce i hi]
    by_cases c : falS σ i
    · rw [if_pos c]
      exact ⟨fun q => absurd rfl q, fun q => absurd q.2 c.2⟩
    · rw [if_neg c]
      exact ⟨fun q => ⟨q, Decidable.byContradiction (fun z => c ⟨q, z⟩)⟩, fun q => q.1⟩
  have htru : ∀ i, i < sK σ → hasC (passN σ u) i → truC (passN σ u) i := fun i hi q => by
    obtain ⟨q1, q2⟩ := (hhas i hi).mp q
    unfold truC
    rw [hce i hi, if_neg (fun z => z.2 q2)]
    unfold honsS
    rw [hp, b3, b4, b5]
    exact q2
  refine ⟨u, u1, u24, e3, ?_, hday, ?_, ?_, fun i hi => ?_⟩
  · rw [hp, b6]
    show sRv σ + cntS (fun i => falS σ i) (sK σ) - sRv σ = certsS σ - honOS σ
    rw [show certsS σ - honOS σ = cntS (fun i => falS σ i) (sK σ) from csub (sK σ), Int32.add_comm, add_sub_c]
  · show cntS (fun i => hasC (passN σ u) i) (sK (passN σ u)) = cntS (fun i => hasC σ i ∧ truC σ i) (sK σ)
    rw [hk]
    exact cnt_eq (sK σ) (fun j hj => hhas j hj)
  · show cntS (fun i => hasC (passN σ u) i ∧ truC (passN σ u) i) (sK (passN σ u)) = cntS (fun i => hasC σ i ∧ truC σ i) (sK σ)
    rw [hk]
    exact cnt_eq (sK σ) (fun j hj => ⟨fun q => (hhas j hj).mp q.1, fun q => ⟨(hhas j hj).mpr q, htru j hj ((hhas j hj).mpr q)⟩⟩)
  · obtain ⟨a1, a2, a3, -⟩ := hat i hi
    refine ⟨by rw [hp]; exact a1, by rw [hp]; exact a2, by rw [hp]; exact a3, ?_, ?_, by rw [hp, b4]⟩
    · rintro ⟨j, hj, hne, hw⟩
      rw [hk] at hj
      rw [hp, (hat j hj).2.2.1] at hw
      have hw : ownH σ j = nI i := hw
      exact hne (ownH_nI (by omega) (by omega) hw).1
    · unfold shadS
      rw [hday, hp, a2]
      exact noon_0 _
theorem then_le {B : Nat} {σ : PS} (h : InvQ B σ) {i : Nat} (hi : i < sK σ) : ¬ sPu σ i + gainS σ i > sPu σ i + 3 := by
  obtain ⟨g1, g2⟩ := gain_in h.1 hi
  obtain ⟨p1, p2⟩ := h.2.2.2 i hi
  have hBB := h.1.1.2.1
  intro z
  have z := Int32.lt_iff_toInt_lt.mp z
  have e3 : (3 : Int32).toInt = 3 := by decide
  rw [i_add (by rw [e3]; omega) (by rw [e3]; omega), i_add (by omega) (by omega), e3] at z
  omega
theorem rich_c {B : Nat} {σ : PS} (hI : InvS B σ) (h0 : 0 < sK σ) : ∃ b, b < sK σ ∧ richS σ = nI b ∧ ∀ j, j < sK σ → ¬ sPu σ j + gainS σ j > sPu σ b + gainS σ b ∧ (j < b → ¬ sPu σ j + gainS σ j = sPu σ b + gainS σ b) := by
  have h10 := hI.1
  obtain ⟨b, hb, e, h⟩ := amx_spec (f := fun i => sPu σ i + gainS σ i) h0 (by omega)
  refine ⟨b, hb, e, fun j hj => ⟨fun z => ?_, fun z q => ?_⟩⟩
  · exact Int32.not_le.mpr z (h j hj).1
  · have := (h j hj).2 z
    rw [q] at this
    exact Int32.lt_irrefl this
theorem long_c {B : Nat} {σ : PS} (hI : InvS B σ) (h0 : 0 < sK σ) : ∃ b, b < sK σ ∧ longS σ = nI b ∧ ∀ j, j < sK σ → ¬ shadS σ j (dayOf σ) > shadS σ b (dayOf σ) := by
  have h10 := hI.1
  obtain ⟨b, hb, e, h⟩ := amx_spec (f := fun i => shadS σ i (dayOf σ)) h0 (by omega)
  exact ⟨b, hb, e, fun j hj z => Int32.not_le.mpr z (h j hj).1⟩
theorem soon_c (σ : PS) (i : Nat) : ∃ b, b < 24 ∧ longInS σ i = nI b ∧ ∀ d, d < 24 → ¬ aheadS σ i (nI d) > aheadS σ i (nI b) ∧ (d < b → ¬ aheadS σ i (nI d) = aheadS σ i (nI b)) := by
  obtain ⟨b, hb, e, h⟩ := amx_spec (f := fun d => aheadS σ i (nI d)) (n := 24) (by omega) (by omega)
  refine ⟨b, hb, e, fun j hj => ⟨fun z => ?_, fun z q => ?_⟩⟩
  · exact Int32.not_le.mpr z (h j hj).1
  · have := (h j hj).2 z
    rw [q] at this
    exact Int32.lt_irrefl this
/-- the first of the greatest, sought from behind -/
theorem amx_uniq {f : Nat → Int32} {n b : Nat} (hn : n < 2 ^ 31) (hb : b < n) (h : ∀ j, j < n → f j ≤ f b ∧ (j < b → f j < f b)) : amxS f n = nI b := by
  obtain ⟨a, ha, e, h2⟩ := amx_spec (f := f) (n := n) (by omega) hn
  have e2 : a = b := by
    rcases Nat.lt_trichotomy a b with c | c | c
    · have h3 := (h a ha).2 c
      exact absurd (h2 b hb).1 (Int32.not_le.mpr h3)
    · exact c
    · have h3 := (h2 b hb).2 c
      exact absurd (h a ha).1 (Int32.not_le.mpr h3)
  rw [e, e2]
