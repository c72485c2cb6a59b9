/-! A MEMBER PUTS ON THE OWN HAT; the audit's rounds as functions of the state -/
theorem one_D {A : Nat → Prop} {a : Nat} {e : va_E} (h : A a) : va_D A [(a, e)] := by
  refine ⟨fun i j p q hi hj _ => ?_, fun k q hk => ?_⟩
  · have h1 := (List.getElem?_eq_some_iff.mp hi).1
    have h2 := (List.getElem?_eq_some_iff.mp hj).1
    simp at h1 h2
    omega
  · have h1 := (List.getElem?_eq_some_iff.mp hk).1
    simp at h1
    subst h1
    cases hk
    exact h
theorem in_X0_putOnOwnHat_X0 : ∀ w ∈ wsX00, w ∈ wsX0_putOnOwnHat := by decide +kernel
set_option maxHeartbeats 4000000 in
set_option maxRecDepth 100000 in
/-- Member.putOnOwnHat(), over the member's one cell -/
theorem c_X0_putOnOwnHat (l : Launch) (D : va_G) (cs : Cs) (a : Nat) (H0 : Heap) (n he ha pu la : Int32) (ow : Option Nat) (ce ah lo : Int32) : Met l yX0_putOnOwnHat wsX0_putOnOwnHat ({ frames := 0, cells := 0, slots := 0, locals := 0 }) (va_Pc [.ref a] (RBp D cs (fun X => X = H0 ∧ va_at D vwCl (a, .inr (1, [.int n, .int he, .int ha, .int pu, .int la, va_rf ow, .int ce, .int ah, .int lo])) X)))
    (va_Qv (fun _ : Unit => True) (fun _ t => va_at D vwCl (a, .inr (1, [.int n, .int he, .int ha, .int pu, .int la, va_rf (if 0 < ha then some a else none), .int ce, .int ah, .int lo])) t.heap) (fun q => q = a ∨ H0.size ≤ q)) 0 0 (fun q => q = a ∨ H0.size ≤ q) := by
  refine Met.ofW (cc := cX0_putOnOwnHat) (maxL := 1) (ret := none) (by decide) rfl ?_
  intro p e s m args below meth c s₁ B0 hml hv
  obtain ⟨rfl, ⟨hH, hP⟩, hK, hN⟩ := hv
  subst hH
  have hx := B0.exec
  have hb := B0.bytes
  have hr := B0.returns
  have hts := atoms_spec (ws := wsX0_putOnOwnHat) B0.pre
  have hown : s.vm.findClass RX0 = some m.cls := findClass_of_methodNamed B0.named
  have hlocks := B0.notSynchronized
  have hS : va_S (fun q => q = a ∨ s.heap.size ≤ q) s.heap s.heap [] := va_S.rf
  have hl := lv_entry ([.ref a]) (n := 1) (Nat.le_of_ble_eq_true rfl)
  rw [lg_entry_eq]
  generalize (lg_sl ([.ref a]) ++ List.replicate (1 - (lg_sl ([.ref a])).length) Slot.unset).toArray = ls at hl ⊢
  have hl : lv_has ls 1 [(0, .ref a)] := hl
  refine lv_aload_n hx hb dX0_putOnOwnHat_0 rfl (lv_at hl 0 rfl) ?_
  refine lv_aload_n hx hb dX0_putOnOwnHat_1 rfl (lv_at hl 0 rfl) ?_
  refine va_get (D := D) (ci := 1) (v := .int ha) (C := RX0) (T := TX0) (N := 9) hx hb hts in_X0_putOnOwnHat_X0 hown hK (one_P hP) 0 rfl rfl 2 (by decide) (hts (.fieldLink RX0 37 "ShadowSociety$Member" "hat" "I") (by decide +kernel)) (fun _ h9 => h9) rfl dX0_putOnOwnHat_2 ?_
  refine lv_if_le (tgt := 12) hx hb dX0_putOnOwnHat_5 (by decide) (fun c_1 => ?_) (fun c_1 => ?_)
  · refine lv_null hx hb dX0_putOnOwnHat_12 ?_
    refine va_put (D := D) (ci := 1) (v := .null) (ty := (.object "ShadowSociety$Member")) (C := RX0) (T := TX0) (N := 9) hx hb hts in_X0_putOnOwnHat_X0 tyX0 tyX0_ok nmX0 hown hK (one_P hP) (one_D (Or.inl rfl)) hS 0 rfl rfl 5 (by decide) (hts (.fieldLink RX0 18 "ShadowSociety$Member" "hatOwner" "LShadowSociety$Member;") (by decide +kernel)) (fun _ h9 => h9) rfl (by decide +kernel) rfl rfl (Nat.le_of_ble_eq_true rfl) dX0_putOnOwnHat_13 (fun H locs hP hD hS => ?_)
    exact W.vret hx hb hr (fun t ht hW => ⟨⟨(), rfl, trivial, by show va_at D vwCl _ t.heap; rw [ht, if_neg (by simpa using c_1)]; exact P_one hP⟩, hS.F ht⟩) hS.2.2 dX0_putOnOwnHat_16
  · refine lv_aload_n hx hb dX0_putOnOwnHat_8 rfl (lv_at hl 0 rfl) ?_
    refine lv_goto (tgt := 13) hx hb dX0_putOnOwnHat_9 (by decide) ?_
    refine va_put (D := D) (ci := 1) (v := .ref a) (ty := (.object "ShadowSociety$Member")) (C := RX0) (T := TX0) (N := 9) hx hb hts in_X0_putOnOwnHat_X0 tyX0 tyX0_ok nmX0 hown hK (one_P hP) (one_D (Or.inl rfl)) hS 0 rfl rfl 5 (by decide) (hts (.fieldLink RX0 18 "ShadowSociety$Member" "hatOwner" "LShadowSociety$Member;") (by decide +kernel)) (fun _ h9 => h9) rfl (by decide +kernel) rfl rfl (Nat.le_of_ble_eq_true rfl) dX0_putOnOwnHat_13 (fun H locs hP hD hS => ?_)
    exact W.vret hx hb hr (fun t ht hW => ⟨⟨(), rfl, trivial, by show va_at D vwCl _ t.heap; rw [ht, if_pos (by simpa using c_1)]; exact P_one hP⟩, hS.F ht⟩) hS.2.2 dX0_putOnOwnHat_16
theorem ownO_own {ad : Nat → Nat} {σ : PS} {i : Nat} (hi : i < 2 ^ 31) : ownO ad (ownH σ i) = if 0 < sHa σ i then some (ad i) else none := by
  unfold ownH
  by_cases c : 0 < sHa σ i
  · rw [if_pos c, if_pos c]
    exact own_s hi rfl
  · rw [if_neg c, if_neg c]
    exact own_n rfl
theorem po_at {D : va_G} {ρ : Rf} {σ : PS} {i : Nat} {H : Heap} (hi : i < 2 ^ 31) (h : va_at D vwCl (r_a ρ i, .inr (1, [.int (nI i), .int (sHe σ i), .int (sHa σ i), .int (sPu σ i), .int (sLa σ i), va_rf (if 0 < sHa σ i then some (r_a ρ i) else none), .int (sCe σ i), .int (sAt σ i), .int (sLo σ i)])) H) :
    va_at D vwCl (r_a ρ i, .inr (1, memF (r_a ρ) (setWe σ (upd (sWe σ) i (ownH σ i))) i)) H := by
  rw [← m_We, ownO_own hi]
  exact h
theorem po_A {ρ : Rf} {k i : Nat} {H0 H : Heap} {locs : List Loc} (hS : va_S (ownA ρ k H0) H0 H locs) (hi : i < k) : ∀ q, (q = r_a ρ i ∨ H.size ≤ q) → ownA ρ k H0 q := by
  intro q h
  rcases h with h | h
  · exact Or.inl (Or.inr (Or.inr (Or.inr ⟨i, hi, h⟩)))
  · exact Or.inr (Nat.le_trans hS.1 h)
theorem ow_A {ρ : Rf} {k : Nat} {H0 H : Heap} {locs : List Loc} (hS : va_S (ownA ρ k H0) H0 H locs) : ∀ q, ownA ρ k H q → ownA ρ k H0 q := by
  intro q h
  rcases h with h | h
  · exact Or.inl h
  · exact Or.inr (Nat.le_trans hS.1 h)
theorem k_seiz (σ : PS) (n : Nat) : sK (seizN σ n) = sK σ ∧ sHr (seizN σ n) = sHr σ ∧ sWe (seizN σ n) = sWe σ := by
  induction n with
  | zero => exact ⟨rfl, rfl, rfl⟩
  | succ n ih =>
    unfold seizN
    split
    · exact ih
    · exact ih
theorem k_judg (σ : PS) (n : Nat) : sK (judgN σ n) = sK σ ∧ sHr (judgN σ n) = sHr σ ∧ sWe (judgN σ n) = sWe σ := by
  induction n with
  | zero => exact ⟨rfl, rfl, rfl⟩
  | succ n ih =>
    unfold judgN
    split
    · exact ih
    · exact ih
theorem invS_same {B : Nat} {σ τ : PS} (hI : InvS B σ) (h : sK τ = sK σ ∧ sHr τ = sHr σ ∧ sWe τ = sWe σ) : InvS B τ := by
  obtain ⟨h1, h2, h3⟩ := h
  refine ⟨by rw [h1]; exact hI.1, hI.2.1, by rw [h2]; exact hI.2.2.1, ?_⟩
  rw [h1, h3]
  exact hI.2.2.2
theorem invS_seiz {B : Nat} {σ : PS} (hI : InvS B σ) (n : Nat) : InvS B (seizN σ n) := invS_same hI (k_seiz σ n)
theorem invS_judg {B : Nat} {σ : PS} (hI : InvS B σ) (n : Nat) : InvS B (judgN σ n) := invS_same hI (k_judg σ n)
theorem k_hats (σ : PS) (n : Nat) : sK (hatsN σ n) = sK σ := by
  induction n with
  | zero => rfl
  | succ n ih => exact ih
theorem invS_hats {B : Nat} {σ : PS} (hI : InvS B σ) : ∀ n, n ≤ sK σ → InvS B (hatsN σ n) := by
  intro n
  induction n with
  | zero => exact fun _ => hI
  | succ n ih =>
    intro hn
    refine invS_we (ih (by omega)) ?_
    unfold ownH
    split
    · exact Or.inr ⟨n, by rw [k_hats]; omega, rfl⟩
    · exact Or.inl rfl
theorem invS_hr {B : Nat} {σ : PS} (hI : InvS B σ) (hB : B + 1 ≤ 40000) : InvS (B + 1) (setHr σ (sHr σ + 1)) := by
  obtain ⟨h1, h2, ⟨h, h3, h4⟩, h5⟩ := hI
  exact ⟨h1, hB, ⟨h + 1, by omega, by show sHr σ + 1 = _; rw [h4]; exact nI_1 h⟩, h5⟩
theorem k_aud (σ : PS) : sK (audS σ) = sK σ := by
  unfold audS
  rw [(k_judg _ _).1, k_hats, (k_seiz _ _).1]
theorem k_hour (σ : PS) : sK (hourS σ) = sK σ := by
  unfold hourS
  split
  · rfl
  · rw [k_aud]
theorem k_pass (σ : PS) (n : Nat) : sK (passN σ n) = sK σ := by
  induction n with
  | zero => rfl
  | succ n ih => exact (k_hour _).trans ih
theorem invS_aud {B : Nat} {σ : PS} (hI : InvS B σ) : InvS B (audS σ) :=
  invS_judg (invS_hats (invS_seiz hI _) _ (Nat.le_refl _)) _
theorem invS_hour {B : Nat} {σ : PS} (hI : InvS B σ) (hB : B + 1 ≤ 40000) : InvS (B + 1) (hourS σ) := by
  unfold hourS
  split
  · exact invS_hr hI hB
  · exact invS_aud (invS_hr hI hB)
theorem invS_pass {B : Nat} {σ : PS} (hI : InvS B σ) : ∀ n, B + n ≤ 40000 → InvS (B + n) (passN σ n) := by
  intro n
  induction n with
  | zero => exact fun _ => hI
  | succ n ih => exact fun h => invS_hour (ih (by omega)) h
theorem ownH_in {σ : PS} {n : Nat} (hn : n < sK σ) : ownH σ n = -1 ∨ ∃ j, j < sK σ ∧ ownH σ n = nI j := by
  unfold ownH
  by_cases c : 0 < sHa σ n
  · exact Or.inr ⟨n, hn, if_pos c⟩
  · exact Or.inl (if_neg c)
theorem lent_same {σ τ : PS} {i : Nat} (hk : sK τ = sK σ) (h : ∀ x, x < sK σ → ¬ x = i → (sWe τ x = nI i ↔ sWe σ x = nI i)) : lentS τ i ↔ lentS σ i := by
  constructor
  · rintro ⟨x, h1, h2, h3⟩
    rw [hk] at h1
    exact ⟨x, h1, h2, (h x h1 h2).mp h3⟩
  · rintro ⟨x, h1, h2, h3⟩
    exact ⟨x, by rw [hk]; exact h1, h2, (h x h1 h2).mpr h3⟩
theorem ha_pos {B : Nat} {σ : PS} (hT : InvT B σ) {j : Nat} (hj : j < sK σ) (h : ¬ sHa σ j = 0) : 0 < sHa σ j := by
  obtain ⟨-, ⟨b, hb, e⟩, -⟩ := hT.2.1 j hj
  rw [e] at h ⊢
  have hb0 : b ≠ 0 := fun q => h (by rw [q]; rfl)
  exact nI_lt (a := 0) (by omega) (by omega)
/-- giving a hat back, in the order of the class -/
theorem give_eq {B : Nat} {σ : PS} (hT : InvT B σ) {i j : Nat} {a : Int32} (hi : i < sK σ) (hj : j < sK σ) (hix : ixS σ a = some i) (hw : sWe σ i = nI j) (hne : ¬ j = i) {σ1 σ2 : PS} (e1 : σ1 = setWe σ (upd (sWe σ) i (-1))) (e2 : σ2 = if ¬ wBor σ1 j then setWe σ1 (upd (sWe σ1) j (ownH σ1 j)) else σ1) :
    giveO σ a = (0, nI j, if ¬ lentS σ2 i then setWe σ2 (upd (sWe σ2) i (ownH σ2 i)) else σ2) := by
  have hI := hT.1
  have h10 := hI.1
  have hji : (nI j).toNatClampNeg = j := nI_clamp (by omega)
  have hbor : wBor σ i := ⟨own_m1 hI hj hw, by rw [hw, nI_eq (by omega) (by omega)]; exact hne⟩
  have hown : ownH σ j = nI j := if_pos (ha_pos hT hj (hT.2.2.1 i j hi hj hw))
  have hwj : ¬ sWe σ j = nI j := by
    intro q
    rcases hT.2.2.2.1 i j hi hj (hw.trans q.symm) with h | h
    · exact own_m1 hI hj hw h
    · exact hne h.symm
  have hw1 : sWe σ1 j = sWe σ j := by rw [e1]; exact pk_un hne
  have g : giveO σ a = (0, nI j, setWe σ (if sWe σ j = -1 then upd (upd (sWe σ) i (backW σ i)) j (nI j) else upd (sWe σ) i (backW σ i))) := by
    unfold giveO
    rw [hix]
    dsimp only
    rw [if_pos hbor, hw, hji]
  rw [g]
  by_cases c : sWe σ j = -1
  · have hb1 : ¬ wBor σ1 j := fun q => q.1 (hw1.trans c)
    rw [if_pos hb1] at e2
    have ho : ownH σ1 j = nI j := by rw [e1]; exact hown
    rw [ho] at e2
    have hl : lentS σ2 i ↔ lentS σ i := by
      refine lent_same (by rw [e2, e1]) (fun x hx hxi => ?_)
      rw [e2, e1]
      by_cases hxj : x = j
      · subst hxj
        rw [show sWe (setWe (setWe σ (upd (sWe σ) i (-1))) (upd (sWe (setWe σ (upd (sWe σ) i (-1)))) x (nI x))) x = nI x from pk_us, c, nI_eq (by omega) (by omega)]
        exact ⟨fun q => absurd q hxi, fun q => absurd q.symm (nI_m1 (by omega))⟩
      · rw [show sWe (setWe (setWe σ (upd (sWe σ) i (-1))) (upd (sWe (setWe σ (upd (sWe σ) i (-1)))) j (nI j))) x = sWe (setWe σ (upd (sWe σ) i (-1))) x from pk_un hxj, show sWe (setWe σ (upd (sWe σ) i (-1))) x = sWe σ x from pk_un hxi]
    rw [if_pos c]
    by_cases d : lentS σ i
    · rw [if_neg (fun q => q (hl.mpr d)), e2, e1]
      unfold backW
      rw [if_pos d]
    · rw [if_pos (fun q => d (hl.mp q))]
      have e4 : ownH σ2 i = ownH σ i := by rw [e2, e1]; rfl
      rw [e4, e2, e1]
      unfold backW
      rw [if_neg d]
      have e5 : upd (upd (sWe σ) i (ownH σ i)) j (nI j) = upd (upd (upd (sWe σ) i (-1)) j (nI j)) i (ownH σ i) := by
        funext x
        simp only [upd]
        by_cases h1 : x = i
        · subst h1
          rw [if_neg (fun q => hne q.symm), if_pos rfl, if_pos rfl]
        · rw [if_neg h1, if_neg h1, if_neg h1]
      rw [e5]
  · have hb1 : wBor σ1 j := ⟨by rw [hw1]; exact c, by rw [hw1]; exact hwj⟩
    rw [if_neg (fun q => q hb1)] at e2
    have hl : lentS σ2 i ↔ lentS σ i := by
      refine lent_same (by rw [e2, e1]) (fun x hx hxi => ?_)
      rw [e2, e1, show sWe (setWe σ (upd (sWe σ) i (-1))) x = sWe σ x from pk_un hxi]
    rw [if_neg c]
    by_cases d : lentS σ i
    · rw [if_neg (fun q => q (hl.mpr d)), e2, e1]
      unfold backW
      rw [if_pos d]
    · rw [if_pos (fun q => d (hl.mp q))]
      have e4 : ownH σ2 i = ownH σ i := by rw [e2, e1]; rfl
      rw [e4, e2, e1]
      unfold backW
      rw [if_neg d]
      have e5 : upd (sWe σ) i (ownH σ i) = upd (upd (sWe σ) i (-1)) i (ownH σ i) := by
        funext x
        simp only [upd]
        by_cases h1 : x = i
        · rw [if_pos h1, if_pos h1]
        · rw [if_neg h1, if_neg h1, if_neg h1]
      rw [e5]
theorem hours_of {a : Int32} (h1 : ¬ a < 1) (h2 : a ≤ 72) : ∃ h : Nat, 1 ≤ h ∧ h ≤ 72 ∧ a = nI h := by
  have h0 : ¬ a < 0 := fun q => h1 (by
    have e1 := Int32.lt_iff_toInt_lt.mp q
    exact Int32.lt_iff_toInt_lt.mpr (by
      have z0 : (0 : Int32).toInt = 0 := by decide
      have z1 : (1 : Int32).toInt = 1 := by decide
      rw [z0] at e1
      rw [z1]
      omega))
  obtain ⟨h, hh, e⟩ := nI_of2 (M := 72) (n := 72) (by decide) h0 h2
  refine ⟨h, ?_, hh, e⟩
  rcases Nat.eq_zero_or_pos h with z | z
  · exact absurd (show a < 1 by rw [e, z]; decide) h1
  · exact z
