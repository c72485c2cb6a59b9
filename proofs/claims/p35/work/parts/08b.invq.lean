/-! WHAT STANDS, behind each operation -/
theorem shad_nI {B : Nat} {σ : PS} (hT : InvT B σ) {i : Nat} (hi : i < sK σ) (h : Int32) : ∃ m : Nat, m ≤ 1000 ∧ shadS σ i h = nI m := by
  obtain ⟨a, ha, e1⟩ := he_nI hT hi
  obtain ⟨b, hb, e2⟩ := worn_nI hT hi
  obtain ⟨-, -, ⟨c, hc, e3⟩⟩ := hT.2.1 i hi
  obtain ⟨m, hm, e4⟩ := natSh_nI (x := sHe σ i + wornH σ i) h (a := a + b) (by omega) (by rw [e1, e2, nI_add])
  refine ⟨m + 3 * c, by omega, ?_⟩
  unfold shadS
  rw [e4, e3]
  rw [show (3 : Int32) * nI c = nI (3 * c) from by
    have key : ∀ c : Nat, c < 10 → (3 : Int32) * nI c = nI (3 * c) := by decide +kernel
    exact key c (by omega), nI_add]
theorem invQ_buy {B : Nat} {σ : PS} (h : InvQ B σ) (hB : B + 72 ≤ 40000) {k b : Nat} (hk : k < sK σ) (hb : b < 9) (c1 : sLa σ k = 0) (c2 : ¬ sPu σ k < nI (1 + b)) : InvQ (B + 72) (setPu (setLa σ (upd (sLa σ) k (nI (1 + b)))) (upd (sPu σ) k (sPu σ k - nI (1 + b)))) := by
  have hT := invT_buy h.1 (nI k) (nI (1 + b))
  rw [buy_ok h.1.1 hk hb c1 c2] at hT
  refine ⟨invT_le hT (by omega) hB, h.2.1, h.2.2.1, fun i hi => ?_⟩
  have hBB := h.1.1.2.1
  show -(100 + 40 * ((B + 72 : Nat) : Int)) ≤ (upd (sPu σ) k (sPu σ k - nI (1 + b)) i).toInt ∧ (upd (sPu σ) k (sPu σ k - nI (1 + b)) i).toInt ≤ 100 + 40 * ((B + 72 : Nat) : Int)
  rcases upd_c (f := sPu σ) (i := k) (j := i) (x := sPu σ k - nI (1 + b)) with ⟨e, e2⟩ | ⟨e, e2⟩ <;> rw [e2]
  · obtain ⟨p1, p2⟩ := h.2.2.2 k hk
    have e3 : (nI (1 + b)).toInt = ((1 + b : Nat) : Int) := nI_toInt (by omega)
    rw [i_sub (by rw [e3]; omega) (by rw [e3]; omega), e3]
    omega
  · obtain ⟨p1, p2⟩ := h.2.2.2 i hi
    omega
theorem purP_le {B C : Nat} {σ τ : PS} (h : PurP B σ) (hBC : B ≤ C) (hk : sK τ = sK σ) (hp : sPu τ = sPu σ) : PurP C τ := fun i hi => by
  rw [hk] at hi
  obtain ⟨p1, p2⟩ := h i hi
  rw [hp]
  omega
theorem invQ_of {B : Nat} {σ τ : PS} (h : InvQ B σ) (hB : B + 72 ≤ 40000) (hT : InvT B τ) (hk : sK τ = sK σ) (h1 : sPu τ = sPu σ) (h2 : sCe τ = sCe σ) (h3 : sAt τ = sAt σ) : InvQ (B + 72) τ := by
  refine ⟨invT_le hT (by omega) hB, fun i hi => ?_, fun i hi => ?_, purP_le h.2.2.2 (by omega) hk h1⟩
  · rw [h2]
    exact h.2.1 i (by rw [← hk]; exact hi)
  · rw [h3]
    exact h.2.2.1 i (by rw [← hk]; exact hi)
theorem invQ_drop {B : Nat} {σ : PS} (h : InvQ B σ) (hB : B + 72 ≤ 40000) {k : Nat} (hk : k < sK σ) (c : ¬ sLa σ k ≤ 0) : InvQ (B + 72) (setLa σ (upd (sLa σ) k 0)) := by
  have hT := invT_drop h.1 (nI k)
  rw [drop_ok h.1 hk c] at hT
  exact invQ_of h hB hT rfl rfl rfl rfl
theorem invQ_borr {B : Nat} {σ : PS} (h : InvQ B σ) (hB : B + 72 ≤ 40000) {k o : Nat} (hk : k < sK σ) (ho : o < sK σ) (hne : ¬ o = k) (c : canM σ k o) : InvQ (B + 72) (bwS σ k o) := by
  have hT := invT_borr h.1 (nI k) (nI o)
  rw [borr_ok h.1 hk ho hne c] at hT
  exact invQ_of h hB hT rfl rfl rfl rfl
theorem give_same (σ : PS) (a : Int32) : sK (giveO σ a).2.2 = sK σ ∧ sPu (giveO σ a).2.2 = sPu σ ∧ sCe (giveO σ a).2.2 = sCe σ ∧ sAt (giveO σ a).2.2 = sAt σ := by
  unfold giveO
  split
  · exact ⟨rfl, rfl, rfl, rfl⟩
  · split <;> exact ⟨rfl, rfl, rfl, rfl⟩
theorem invQ_give {B : Nat} {σ u : PS} {v : Int32} (h : InvQ B σ) (hB : B + 72 ≤ 40000) {k : Nat} (hu : giveO σ (nI k) = (0, v, u)) : InvQ (B + 72) u ∧ sK u = sK σ := by
  have hT := invT_give h.1 (nI k)
  have hs := give_same σ (nI k)
  rw [hu] at hT hs
  exact ⟨invQ_of h hB hT hs.1 hs.2.1 hs.2.2.1 hs.2.2.2, hs.1⟩
theorem invQ_cert {B : Nat} {σ : PS} (h : InvQ B σ) (hB : B + 72 ≤ 40000) {k : Nat} (hk : k < sK σ) (c : ¬ sLo σ k ≥ 3) : InvQ (B + 72) (setAt (setCe σ (upd (sCe σ) k (shadS σ k (dayOf σ)))) (upd (sAt σ) k (dayOf σ))) := by
  have hT := invT_cert h.1 (nI k)
  rw [cert_ok h.1.1 hk c] at hT
  refine ⟨invT_le hT (by omega) hB, fun i hi => ?_, fun i hi => ?_, purP_le h.2.2.2 (by omega) rfl rfl⟩
  · show upd (sCe σ) k (shadS σ k (dayOf σ)) i = -1 ∨ 0 ≤ upd (sCe σ) k (shadS σ k (dayOf σ)) i
    rcases upd_c (f := sCe σ) (i := k) (j := i) (x := shadS σ k (dayOf σ)) with ⟨-, e2⟩ | ⟨-, e2⟩ <;> rw [e2]
    · obtain ⟨m, hm, e⟩ := shad_nI h.1 hk (dayOf σ)
      rw [e]
      exact Or.inr (nI_pos' (by omega))
    · exact h.2.1 i hi
  · show ∃ a : Nat, a < 24 ∧ upd (sAt σ) k (dayOf σ) i = nI a
    rcases upd_c (f := sAt σ) (i := k) (j := i) (x := dayOf σ) with ⟨-, e2⟩ | ⟨-, e2⟩ <;> rw [e2]
    · exact day_lt h.1.1
    · exact h.2.2.1 i hi
theorem invQ_join {B : Nat} {σ : PS} (h : InvQ B σ) (hB : B + 72 ≤ 40000) {a b : Nat} (ha : a < 99) (hb : b < 21) (hk : sK σ < 10) : InvQ (B + 72) (joinS σ (nI (1 + a)) (nI b)) := by
  have hT := invT_joinS h.1 hk (x := 1 + a) (y := b) (by omega) (by omega) rfl (by omega) rfl
  have hBB := h.1.1.2.1
  refine ⟨invT_le hT (by omega) hB, fun i hi => ?_, fun i hi => ?_, fun i hi => ?_⟩
  · have hi : i < sK σ + 1 := hi
    show upd (sCe σ) (sK σ) (-1) i = -1 ∨ 0 ≤ upd (sCe σ) (sK σ) (-1) i
    rcases upd_c (f := sCe σ) (i := sK σ) (j := i) (x := -1) with ⟨-, e2⟩ | ⟨e, e2⟩ <;> rw [e2]
    · exact Or.inl rfl
    · exact h.2.1 i (by omega)
  · have hi : i < sK σ + 1 := hi
    show ∃ a : Nat, a < 24 ∧ sAt σ i = nI a
    by_cases c : i = sK σ
    · rw [(h.1.2.2.2.2 i (by omega)).2.1]
      exact ⟨0, by omega, rfl⟩
    · exact h.2.2.1 i (by omega)
  · have hi : i < sK σ + 1 := hi
    show -(100 + 40 * ((B + 72 : Nat) : Int)) ≤ (upd (sPu σ) (sK σ) 50 i).toInt ∧ (upd (sPu σ) (sK σ) 50 i).toInt ≤ 100 + 40 * ((B + 72 : Nat) : Int)
    rcases upd_c (f := sPu σ) (i := sK σ) (j := i) (x := 50) with ⟨-, e2⟩ | ⟨e, e2⟩ <;> rw [e2]
    · have e3 : (50 : Int32).toInt = 50 := by decide
      rw [e3]
      omega
    · obtain ⟨p1, p2⟩ := h.2.2.2 i (by omega)
      omega
theorem row_join {σ : PS} {a b : Int32} {B : Nat} (hT : InvT B σ) (g : Nat → Int32) (h0 : g 0 = a) (h1 : g 1 = b) (h2 : g 2 = 50) (h3 : g 3 = 0) (h4 : g 4 = if 0 < b then nI (sK σ) else -1) (h5 : g 5 = -1) (h6 : g 6 = 0) (h7 : g 7 = 0) (h8 : ∀ n, g (n + 8) = 0) : g = rowF (joinS σ a b) (sK σ) := by
  obtain ⟨z1, z2, z3⟩ := hT.2.2.2.2 (sK σ) (Nat.le_refl _)
  exact row_c g (h0.trans (pk_us (f := sHe σ)).symm) (h1.trans (pk_us (f := sHa σ)).symm) (h2.trans (pk_us (f := sPu σ)).symm) (h3.trans z1.symm) (h4.trans (pk_us (f := sWe σ)).symm) (h5.trans (pk_us (f := sCe σ)).symm) (h6.trans z2.symm) (h7.trans z3.symm) h8
theorem row_joinO {σ : PS} {a b : Int32} {i : Nat} (hi : i < sK σ) : rowF (joinS σ a b) i = rowF σ i :=
  row_o (pk_un (by omega)) (pk_un (by omega)) (pk_un (by omega)) rfl (pk_un (by omega)) (pk_un (by omega)) rfl rfl
