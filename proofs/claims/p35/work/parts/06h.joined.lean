/-! JOIN: the new member's cell beside the society's -/
theorem lt10_of {B : Nat} {σ : PS} (hI : InvS B σ) (c : nI (sK σ) < 10) : sK σ < 10 := (nI_ltI (a := sK σ) (b := 10) (by have := hI.1; omega) (by omega)).mp c
theorem P_appL {D : va_G} {cl : List vw_C} {a b : va_W} {H : Heap} (h : va_P D cl (a ++ b) H) : va_P D cl a H := fun k q hk => h k q (by rw [List.getElem?_append_left (List.getElem?_eq_some_iff.mp hk).1]; exact hk)
theorem own_at {cs : Cs} {ρ : Rf} {σ : PS} {x : Nat} (h : ownB ρ (sK σ) x) : ∃ (k : Nat) (q : Nat × va_E), (socW cs ρ σ)[k]? = some q ∧ q.1 = x := by
  rcases h with h | h | ⟨h0, h⟩ | ⟨i, hi, h⟩
  · exact ⟨0, _, rfl, h.symm⟩
  · exact ⟨1, _, rfl, h.symm⟩
  · exact ⟨_, _, socW_arr h0, h.symm⟩
  · exact ⟨_, _, socW_at hi, h.symm⟩
theorem join_new {D : va_G} {cs : Cs} {ρ : Rf} {σ : PS} {mq : Nat} {e : va_E} {H0 H : Heap} (hP : va_P D vwCl (socW cs ρ σ ++ [(mq, e)]) H) (hD : va_D (ownA ρ (sK σ) H0) (socW cs ρ σ ++ [(mq, e)])) : Soc D cs ρ σ H ∧ va_at D vwCl (mq, e) H ∧ ¬ ownB ρ (sK σ) mq ∧ H0.size ≤ mq := by
  have hl : (socW cs ρ σ ++ [(mq, e)])[(socW cs ρ σ).length]? = some (mq, e) := by simp
  have hn : ¬ ownB ρ (sK σ) mq := by
    intro h
    obtain ⟨k, q, hk, hq⟩ := own_at (cs := cs) h
    have hlt := (List.getElem?_eq_some_iff.mp hk).1
    have := hD.1 k _ q (mq, e) (by rw [List.getElem?_append_left hlt]; exact hk) hl hq
    omega
  refine ⟨P_soc (P_appL hP), hP _ _ hl, hn, ?_⟩
  rcases hD.2 _ _ hl with h | h
  · exact absurd h hn
  · exact h
theorem soc_kept {D : va_G} {cs : Cs} {ρ : Rf} {σ : PS} {H H1 : Heap} (hP : Soc D cs ρ σ H) (hk : ∀ q, ownB ρ (sK σ) q → q < H.size → H1[q]? = H[q]?) : Soc D cs ρ σ H1 :=
  ⟨hP.1.kept (hk _ (Or.inl rfl) hP.1.lt), ⟨hP.2.1.1.kept (hk _ (Or.inr (Or.inl rfl)) hP.2.1.1.lt), fun h0 => (hP.2.1.2 h0).kept (hk _ (Or.inr (Or.inr (Or.inl ⟨h0, rfl⟩))) (hP.2.1.2 h0).lt)⟩,
    fun i hi => (hP.2.2 i hi).kept (hk _ (Or.inr (Or.inr (Or.inr ⟨i, hi, rfl⟩))) (hP.2.2 i hi).lt)⟩
theorem one_A {a n q : Nat} {e : va_E} (h : va_A [(a, e)] n q) : q = a ∨ n ≤ q := by
  rcases h with ⟨k, e', h⟩ | h
  · cases k with
    | zero => cases h; exact Or.inl rfl
    | succ k => cases h
  · exact Or.inr h
theorem two_P {D : va_G} {cl : List vw_C} {x y : Nat × va_E} {H : Heap} (h1 : va_at D cl x H) (h2 : va_at D cl y H) : va_P D cl [x, y] H := by
  intro k q hk
  match k, hk with
  | 0, hk => cases hk; exact h1
  | 1, hk => cases hk; exact h2
  | k + 2, hk => cases hk
theorem tri_P {D : va_G} {cl : List vw_C} {x y z : Nat × va_E} {H : Heap} (h1 : va_at D cl x H) (h2 : va_at D cl y H) (h3 : va_at D cl z H) : va_P D cl [x, y, z] H := by
  intro k q hk
  match k, hk with
  | 0, hk => cases hk; exact h1
  | 1, hk => cases hk; exact h2
  | 2, hk => cases hk; exact h3
  | k + 3, hk => cases hk
theorem two_D {x y : Nat × va_E} (h : x.1 ≠ y.1) : va_D (fun _ => True) [x, y] := by
  refine ⟨fun i j p q hi hj hpq => ?_, fun _ _ _ => trivial⟩
  match i, j, hi, hj with
  | 0, 0, _, _ => rfl
  | 0, 1, hi, hj => cases hi; cases hj; exact absurd hpq h
  | 1, 0, hi, hj => cases hi; cases hj; exact absurd hpq.symm h
  | 1, 1, _, _ => rfl
  | i + 2, _, hi, _ => cases hi
  | 0, j + 2, _, hj => cases hj
  | 1, j + 2, _, hj => cases hj
theorem tri_D {x y z : Nat × va_E} (h1 : x.1 ≠ y.1) (h2 : x.1 ≠ z.1) (h3 : y.1 ≠ z.1) : va_D (fun _ => True) [x, y, z] := by
  refine ⟨fun i j p q hi hj hpq => ?_, fun _ _ _ => trivial⟩
  match i, j, hi, hj with
  | 0, 0, _, _ => rfl
  | 0, 1, hi, hj => cases hi; cases hj; exact absurd hpq h1
  | 0, 2, hi, hj => cases hi; cases hj; exact absurd hpq h2
  | 1, 0, hi, hj => cases hi; cases hj; exact absurd hpq.symm h1
  | 1, 1, _, _ => rfl
  | 1, 2, hi, hj => cases hi; cases hj; exact absurd hpq h3
  | 2, 0, hi, hj => cases hi; cases hj; exact absurd hpq.symm h2
  | 2, 1, hi, hj => cases hi; cases hj; exact absurd hpq.symm h3
  | 2, 2, _, _ => rfl
  | i + 3, _, hi, _ => cases hi
  | 0, j + 3, _, hj => cases hj
  | 1, j + 3, _, hj => cases hj
  | 2, j + 3, _, hj => cases hj
theorem two_A {x y : Nat × va_E} {n q : Nat} (h : va_A [x, y] n q) : q = x.1 ∨ q = y.1 ∨ n ≤ q := by
  rcases h with ⟨k, e', h⟩ | h
  · match k, h with
    | 0, h => cases h; exact Or.inl rfl
    | 1, h => cases h; exact Or.inr (Or.inl rfl)
    | k + 2, h => cases h
  · exact Or.inr (Or.inr h)
theorem tri_A {x y z : Nat × va_E} {n q : Nat} (h : va_A [x, y, z] n q) : q = x.1 ∨ q = y.1 ∨ q = z.1 ∨ n ≤ q := by
  rcases h with ⟨k, e', h⟩ | h
  · match k, h with
    | 0, h => cases h; exact Or.inl rfl
    | 1, h => cases h; exact Or.inr (Or.inl rfl)
    | 2, h => cases h; exact Or.inr (Or.inr (Or.inl rfl))
    | k + 3, h => cases h
  · exact Or.inr (Or.inr (Or.inr h))
/-- the society with one more member -/
theorem join_end {D : va_G} {cs : Cs} {ρ : Rf} {B : Nat} {σ : PS} {a b mc : Int32} {mq ea : Nat} {H : Heap} (hT : InvT B σ) (hk : sK σ < 10) (hap : AptA ρ (sK σ)) (hfr : ¬ ownB ρ (sK σ) mq) (heq : ea ≠ mq) (heh : r_h ρ ≠ ea) (hel : r_q ρ ≠ ea) (hem : ∀ i, i < sK σ → r_a ρ i ≠ ea)
    (hs : va_at D vwCl (r_h ρ, .inr (2, [.ref (r_q ρ), .int (sHr σ), .int (sSz σ), .int (sRv σ)])) H) (hl : va_at D vwCl (r_q ρ, .inr (0, [.int mc, .ref ea, .int (nI (sK σ) + 1)])) H)
    (ha : va_at D vwCl (ea, .inl (cs.2.1, 10, .inr (.inr (.inr (.inr (va_up (elm (r_a ρ) (sK σ)) (sK σ) (some mq))))))) H) (hm : MemP D ρ σ H)
    (hM : va_at D vwCl (mq, .inr (1, [.int (nI (sK σ)), .int a, .int b, .int 50, .int 0, va_rf (if 0 < b then some mq else none), .int (-1), .int 0, .int 0])) H) :
    Soc D cs (r_h ρ, r_q ρ, ea, va_up (r_a ρ) (sK σ) mq, mc) (joinS σ a b) H ∧ AptA (r_h ρ, r_q ρ, ea, va_up (r_a ρ) (sK σ) mq, mc) (sK σ + 1) := by
  have hI := hT.1
  have hnew : va_up (r_a ρ) (sK σ) mq (sK σ) = mq := va_up_self _ _ _
  have hold : ∀ i, i < sK σ → va_up (r_a ρ) (sK σ) mq i = r_a ρ i := fun i hi => va_up_ne _ _ (Nat.ne_of_lt hi)
  refine ⟨⟨hs, ⟨?_, fun _ => ?_⟩, fun i hi => ?_⟩, ?_⟩
  · rw [nI_1] at hl
    exact hl
  · have e : elm (va_up (r_a ρ) (sK σ) mq) (sK σ + 1) = va_up (elm (r_a ρ) (sK σ)) (sK σ) (some mq) := by
      funext i
      unfold elm
      by_cases h1 : i = sK σ
      · subst h1
        rw [va_up_self (fun i => if i < sK σ then some (r_a ρ i) else none) (sK σ) (some mq), if_pos (by omega), hnew]
      · rw [va_up_ne (fun i => if i < sK σ then some (r_a ρ i) else none) (some mq) h1]
        by_cases h2 : i < sK σ
        · rw [if_pos (by omega), if_pos h2, hold i h2]
        · rw [if_neg (by omega), if_neg h2]
    show va_at D vwCl (ea, .inl (cs.2.1, 10, .inr (.inr (.inr (.inr (elm (va_up (r_a ρ) (sK σ) mq) (sK σ + 1))))))) H
    rw [e]
    exact ha
  · show va_at D vwCl (va_up (r_a ρ) (sK σ) mq i, .inr (1, memF (va_up (r_a ρ) (sK σ) mq) (joinS σ a b) i)) H
    have hi : i < sK σ + 1 := hi
    by_cases h1 : i = sK σ
    · subst h1
      rw [hnew]
      have hz := hT.2.2.2.2 (sK σ) (Nat.le_refl _)
      have e : memF (va_up (r_a ρ) (sK σ) mq) (joinS σ a b) (sK σ) = [.int (nI (sK σ)), .int a, .int b, .int 50, .int 0, va_rf (if 0 < b then some mq else none), .int (-1), .int 0, .int 0] := by
        unfold memF
        have e1 : sHe (joinS σ a b) (sK σ) = a := pk_us
        have e2 : sHa (joinS σ a b) (sK σ) = b := pk_us
        have e3 : sPu (joinS σ a b) (sK σ) = 50 := pk_us
        have e4 : sLa (joinS σ a b) (sK σ) = 0 := hz.1
        have e5 : sWe (joinS σ a b) (sK σ) = if 0 < b then nI (sK σ) else -1 := pk_us
        have e6 : sCe (joinS σ a b) (sK σ) = -1 := pk_us
        have e7 : sAt (joinS σ a b) (sK σ) = 0 := hz.2.1
        have e8 : sLo (joinS σ a b) (sK σ) = 0 := hz.2.2
        rw [e1, e2, e3, e4, e5, e6, e7, e8]
        have e9 : ownO (va_up (r_a ρ) (sK σ) mq) (if 0 < b then nI (sK σ) else -1) = if 0 < b then some mq else none := by
          by_cases c : 0 < b
          · rw [if_pos c, if_pos c, own_s (j := sK σ) (by omega) rfl, hnew]
          · rw [if_neg c, if_neg c, own_n rfl]
        rw [e9]
      rw [e]
      exact hM
    · have h2 : i < sK σ := by omega
      rw [hold i h2]
      have e : memF (va_up (r_a ρ) (sK σ) mq) (joinS σ a b) i = memF (r_a ρ) σ i := by
        unfold memF
        rw [show sHe (joinS σ a b) i = sHe σ i from pk_un h1, show sHa (joinS σ a b) i = sHa σ i from pk_un h1, show sPu (joinS σ a b) i = sPu σ i from pk_un h1, show sWe (joinS σ a b) i = sWe σ i from pk_un h1, show sCe (joinS σ a b) i = sCe σ i from pk_un h1]
        have e9 : ownO (va_up (r_a ρ) (sK σ) mq) (sWe σ i) = ownO (r_a ρ) (sWe σ i) := by
          rcases wear_cases hI h2 with h | ⟨j, hj, h⟩
          · rw [own_n h, own_n h]
          · rw [own_s (j := j) (by omega) h, own_s (j := j) (by omega) h, hold j hj]
        rw [e9]
        rfl
      rw [e]
      exact hm i h2
  · obtain ⟨hJ, g1, g2, g3⟩ := hap
    have hnh : mq ≠ r_h ρ := fun q => hfr (Or.inl q)
    have hnq : mq ≠ r_q ρ := fun q => hfr (Or.inr (Or.inl q))
    have hnm : ∀ i, i < sK σ → r_a ρ i ≠ mq := fun i hi q => hfr (Or.inr (Or.inr (Or.inr ⟨i, hi, q.symm⟩)))
    refine ⟨fun i j hi hj hij => ?_, g1, fun i hi => ?_, fun _ => ⟨heh, hel⟩⟩
    · have hij : va_up (r_a ρ) (sK σ) mq i = va_up (r_a ρ) (sK σ) mq j := hij
      by_cases h1 : i = sK σ <;> by_cases h2 : j = sK σ
      · omega
      · rw [h1, hnew, hold j (by omega)] at hij
        exact absurd hij.symm (hnm j (by omega))
      · rw [h2, hnew, hold i (by omega)] at hij
        exact absurd hij (hnm i (by omega))
      · rw [hold i (by omega), hold j (by omega)] at hij
        exact hJ i j (by omega) (by omega) hij
    · show va_up (r_a ρ) (sK σ) mq i ≠ _ ∧ va_up (r_a ρ) (sK σ) mq i ≠ _ ∧ va_up (r_a ρ) (sK σ) mq i ≠ _
      by_cases h1 : i = sK σ
      · rw [h1, hnew]
        exact ⟨hnh, hnq, Ne.symm heq⟩
      · rw [hold i (by omega)]
        exact ⟨(g2 i (by omega)).1, (g2 i (by omega)).2.1, hem i (by omega)⟩
theorem join_ea {x y z : Nat × va_E} {A : Nat → Prop} {u v : Nat × va_E} {n : Nat} (hD : va_D A [x, y, z]) (hz : va_A [u, v] n z.1) (hu : u.1 = y.1) (hv : v.1 = x.1) : ∀ q, q < n → q ≠ z.1 := by
  intro q hq e
  have h1 : z.1 ≠ y.1 := fun e => by have := hD.1 2 1 _ _ rfl rfl e; omega
  have h2 : z.1 ≠ x.1 := fun e => by have := hD.1 2 0 _ _ rfl rfl e; omega
  rcases two_A hz with h | h | h
  · exact h1 (h.trans hu)
  · exact h2 (h.trans hv)
  · omega
theorem join_own {ρ : Rf} {k mq ea : Nat} {mc : Int32} {H0 : Heap} (hge : H0.size ≤ mq) (he : (0 < k ∧ ea = r_e ρ) ∨ H0.size ≤ ea) : ∀ q, ownB (r_h ρ, r_q ρ, ea, va_up (r_a ρ) k mq, mc) (k + 1) q → ownB ρ k q ∨ H0.size ≤ q := by
  intro q h
  rcases h with h | h | ⟨-, h⟩ | ⟨i, hi, h⟩
  · exact Or.inl (Or.inl h)
  · exact Or.inl (Or.inr (Or.inl h))
  · have h : q = ea := h
    rcases he with ⟨h0, he⟩ | he
    · exact Or.inl (Or.inr (Or.inr (Or.inl ⟨h0, h.trans he⟩)))
    · exact Or.inr (by rw [h]; exact he)
  · have h : q = va_up (r_a ρ) k mq i := h
    by_cases h1 : i = k
    · subst h1
      rw [va_up_self] at h
      exact Or.inr (by rw [h]; exact hge)
    · rw [va_up_ne _ _ h1] at h
      exact Or.inl (Or.inr (Or.inr (Or.inr ⟨i, by omega, h⟩)))
