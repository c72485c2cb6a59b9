/-! WHAT STANDS OF EVERY STATE is kept by every call -/
theorem ownH_nI {σ : PS} {i j : Nat} (hi : i < 2 ^ 31) (hj : j < 2 ^ 31) (h : ownH σ i = nI j) : i = j ∧ 0 < sHa σ i := by
  unfold ownH at h
  by_cases c : 0 < sHa σ i
  · rw [if_pos c] at h
    exact ⟨(nI_eq hi hj).mp h, c⟩
  · rw [if_neg c] at h
    exact absurd h.symm (nI_m1 hj)
theorem ne0_of_lt {x : Int32} (h : 0 < x) : ¬ x = 0 := fun q => by
  rw [q] at h
  exact absurd h (by decide)
theorem invT_aud {B : Nat} {σ : PS} (hT : InvT B σ) : InvT B (audS σ) := by
  have h10 := hT.1.1
  have hs := invS_aud hT.1
  rw [← aud_eq hT, aud_c] at hs ⊢
  have hw : ∀ i, i < sK σ → sWe (audC σ (sK σ)) i = ownH σ i := fun i hi => (fL_lt (n := sK σ) (g := ownH σ) (f := sWe σ) hi :)
  refine ⟨hs, fun i hi => ⟨(hT.2.1 i hi).1, (hT.2.1 i hi).2.1, 0, by omega, (fL_lt (n := sK σ) (g := gZ σ) (f := sLa σ) hi :)⟩, fun i j hi hj h => ?_, fun i j hi hj h => ?_, fun i hi => ?_⟩
  · have hi : i < sK σ := hi
    have hj : j < sK σ := hj
    rw [hw i hi] at h
    obtain ⟨e, hp⟩ := ownH_nI (by omega) (by omega) h
    subst e
    exact ne0_of_lt hp
  · have hi : i < sK σ := hi
    have hj : j < sK σ := hj
    rw [hw i hi, hw j hj] at h
    rw [hw i hi]
    by_cases c : 0 < sHa σ i
    · refine Or.inr ?_
      have e : ownH σ i = nI i := if_pos c
      rw [e] at h
      exact (ownH_nI (by omega) (by omega) h.symm).1.symm
    · exact Or.inl (if_neg c)
  · have hi : sK σ ≤ i := hi
    have hn : ¬ i < sK σ := by omega
    have h0 := hT.2.2.2.2 i hi
    refine ⟨?_, h0.2.1, ?_⟩
    · show fL (sK σ) (gZ σ) (sLa σ) i = 0
      unfold fL
      rw [if_neg hn, h0.1]
    · show fL (sK σ) (gO σ) (sLo σ) i = 0
      unfold fL
      rw [if_neg hn, h0.2.2]
theorem invT_hr {B : Nat} {σ : PS} (hT : InvT B σ) (hB : B + 1 ≤ 40000) : InvT (B + 1) (setHr σ (sHr σ + 1)) := ⟨invS_hr hT.1 hB, hT.2⟩
theorem invT_hour {B : Nat} {σ : PS} (hT : InvT B σ) (hB : B + 1 ≤ 40000) : InvT (B + 1) (hourS σ) := by
  unfold hourS
  split
  · exact invT_hr hT hB
  · exact invT_aud (invT_hr hT hB)
theorem invT_passN {B : Nat} {σ : PS} (hT : InvT B σ) : ∀ n, B + n ≤ 40000 → InvT (B + n) (passN σ n) := by
  intro n
  induction n with
  | zero => exact fun _ => hT
  | succ n ih => exact fun h => invT_hour (ih (by omega)) h
theorem invT_le {B C : Nat} {σ : PS} (hT : InvT B σ) (h : B ≤ C) (hC : C ≤ 40000) : InvT C σ := by
  obtain ⟨⟨h1, -, ⟨x, hx, e⟩, h4⟩, h5⟩ := hT
  exact ⟨⟨h1, hC, ⟨x, by omega, e⟩, h4⟩, h5⟩
theorem invT_pass {B : Nat} {σ : PS} (hT : InvT B σ) (hB : B + 72 ≤ 40000) (a : Int32) : InvT (B + 72) (passO σ a).2.2 := by
  unfold passO
  split
  · exact invT_le hT (by omega) hB
  · split
    · rename_i c1 c2
      obtain ⟨h, h1, h2, e⟩ := hours_of c1 c2
      rw [e, nI_clamp (by omega)]
      exact invT_le (invT_passN hT h (by omega)) (by omega) hB
    · exact invT_le hT (by omega) hB
theorem upd_c {f : Nat → Int32} {i j : Nat} {x : Int32} : (j = i ∧ upd f i x j = x) ∨ (j ≠ i ∧ upd f i x j = f j) := by
  by_cases c : j = i
  · exact Or.inl ⟨c, if_pos c⟩
  · exact Or.inr ⟨c, if_neg c⟩
theorem invT_la {B : Nat} {σ : PS} (hT : InvT B σ) {i c : Nat} (hi : i < sK σ) (hc : c ≤ 9) : InvT B (setLa σ (upd (sLa σ) i (nI c))) := by
  refine ⟨hT.1, fun j hj => ⟨(hT.2.1 j hj).1, (hT.2.1 j hj).2.1, ?_⟩, hT.2.2.1, hT.2.2.2.1, fun j hj => ⟨?_, (hT.2.2.2.2 j hj).2⟩⟩
  · rcases upd_c (f := sLa σ) (i := i) (j := j) (x := nI c) with ⟨-, e⟩ | ⟨-, e⟩
    · exact ⟨c, hc, e⟩
    · obtain ⟨d, h1, h2⟩ := (hT.2.1 j hj).2.2
      exact ⟨d, h1, e.trans h2⟩
  · have hj : sK σ ≤ j := hj
    rcases upd_c (f := sLa σ) (i := i) (j := j) (x := nI c) with ⟨h, -⟩ | ⟨-, e⟩
    · omega
    · exact e.trans (hT.2.2.2.2 j hj).1
theorem invT_buy {B : Nat} {σ : PS} (hT : InvT B σ) (a b : Int32) : InvT B (buyO σ a b).2.2 := by
  unfold buyO
  rcases ix_c hT.1 a with ⟨h, -⟩ | ⟨i, hi, -, h⟩
  · rw [h]
    exact hT
  · rw [h]
    dsimp only
    split
    · exact hT
    · split
      · rename_i c1 c2
        split
        · split
          · have h0 : ¬ b < 0 := fun q => c1 (Int32.lt_trans q (by decide))
            obtain ⟨c, hc, e⟩ := nI_of2 (M := 9) (n := 9) (by decide) h0 c2
            rw [e]
            exact invT_la (σ := setPu σ _) hT hi hc
          · exact hT
        · exact hT
      · exact hT
theorem invT_drop {B : Nat} {σ : PS} (hT : InvT B σ) (a : Int32) : InvT B (dropO σ a).2.2 := by
  unfold dropO
  rcases ix_c hT.1 a with ⟨h, -⟩ | ⟨i, hi, -, h⟩
  · rw [h]
    exact hT
  · rw [h]
    dsimp only
    split
    · exact invT_la (c := 0) hT hi (by omega)
    · exact hT
theorem invT_cert {B : Nat} {σ : PS} (hT : InvT B σ) (a : Int32) : InvT B (certO σ a).2.2 := by
  unfold certO
  rcases ix_c hT.1 a with ⟨h, -⟩ | ⟨i, hi, -, h⟩
  · rw [h]
    exact hT
  · rw [h]
    dsimp only
    split
    · exact hT
    · refine ⟨hT.1, hT.2.1, hT.2.2.1, hT.2.2.2.1, fun j hj => ⟨(hT.2.2.2.2 j hj).1, ?_, (hT.2.2.2.2 j hj).2.2⟩⟩
      have hj : sK σ ≤ j := hj
      show upd (sAt σ) i (dayOf σ) j = 0
      rw [show upd (sAt σ) i (dayOf σ) j = sAt σ j from pk_un (by omega)]
      exact (hT.2.2.2.2 j hj).2.1
/-- what is worn, anew -/
theorem invT_we {B : Nat} {σ : PS} (hT : InvT B σ) {f : Nat → Int32} (h1 : ∀ i, i < sK σ → f i = -1 ∨ ∃ j : Nat, j < sK σ ∧ f i = nI j ∧ ¬ sHa σ j = 0) (h2 : ∀ i j, i < sK σ → j < sK σ → f i = f j → f i = -1 ∨ i = j) : InvT B (setWe σ f) := by
  have h10 := hT.1.1
  refine ⟨⟨hT.1.1, hT.1.2.1, hT.1.2.2.1, fun i hi => (h1 i hi).imp id (fun ⟨j, a, b, _⟩ => ⟨j, a, b⟩)⟩, hT.2.1, fun i j hi hj h => ?_, h2, hT.2.2.2.2⟩
  have hi : i < sK σ := hi
  have hj : j < sK σ := hj
  have h : f i = nI j := h
  rcases h1 i hi with e | ⟨x, hx, e, hn⟩
  · exact absurd (h.symm.trans e) (nI_m1 (by omega))
  · have : x = j := (nI_eq (by omega) (by omega)).mp (e.symm.trans h)
    rw [← this]
    exact hn
theorem we_old {B : Nat} {σ : PS} (hT : InvT B σ) {i : Nat} (hi : i < sK σ) : sWe σ i = -1 ∨ ∃ j : Nat, j < sK σ ∧ sWe σ i = nI j ∧ ¬ sHa σ j = 0 :=
  (wear_cases hT.1 hi).imp id (fun ⟨j, hj, e⟩ => ⟨j, hj, e, hT.2.2.1 i j hi hj e⟩)
theorem invT_borr {B : Nat} {σ : PS} (hT : InvT B σ) (a b : Int32) : InvT B (borrO σ a b).2.2 := by
  have h10 := hT.1.1
  unfold borrO
  rcases ix_c hT.1 a with ⟨h, -⟩ | ⟨i, hi, -, h⟩
  · rw [h]
    exact hT
  · rcases ix_c hT.1 b with ⟨h', -⟩ | ⟨o, ho, -, h'⟩
    · rw [h, h']
      exact hT
    · rw [h, h']
      dsimp only
      split
      · split
        · rename_i c1 c2
          obtain ⟨hne, how, -⟩ := c2
          have hm : ¬ nI o = -1 := nI_m1 (by omega)
          have vi : upd (upd (sWe σ) o (-1)) i (nI o) i = nI o := pk_us
          have vo : upd (upd (sWe σ) o (-1)) i (nI o) o = -1 := (pk_un hne).trans pk_us
          have vx : ∀ x, x ≠ i → x ≠ o → upd (upd (sWe σ) o (-1)) i (nI o) x = sWe σ x := fun x h1 h2 => (pk_un h1).trans (pk_un h2)
          refine invT_we hT (fun x hx => ?_) (fun x y hx hy e => ?_)
          · by_cases c1 : x = i
            · subst c1
              exact Or.inr ⟨o, ho, vi, hT.2.2.1 o o ho ho how⟩
            · by_cases c2 : x = o
              · subst c2
                exact Or.inl vo
              · rw [vx x c1 c2]
                exact we_old hT hx
          · by_cases c1 : x = i
            · subst c1
              by_cases d1 : y = x
              · exact Or.inr d1.symm
              · by_cases d2 : y = o
                · subst d2
                  rw [vi, vo] at e
                  exact absurd e hm
                · rw [vi, vx y d1 d2] at e
                  rcases hT.2.2.2.1 o y ho hy (how.trans e) with q | q
                  · exact absurd (how.symm.trans q) hm
                  · exact absurd q.symm d2
            · by_cases c2 : x = o
              · subst c2
                exact Or.inl vo
              · rw [vx x c1 c2] at e ⊢
                by_cases d1 : y = i
                · subst d1
                  rw [vi] at e
                  rcases hT.2.2.2.1 x o hx ho (e.trans how.symm) with q | q
                  · exact Or.inl q
                  · exact absurd q c2
                · by_cases d2 : y = o
                  · subst d2
                    rw [vo] at e
                    exact Or.inl e
                  · rw [vx y d1 d2] at e
                    exact hT.2.2.2.1 x y hx hy e
        · exact hT
      · exact hT
theorem backW_c {σ : PS} {i : Nat} : backW σ i = -1 ∨ (¬ lentS σ i ∧ 0 < sHa σ i ∧ backW σ i = nI i) := by
  unfold backW ownH
  by_cases c : lentS σ i
  · exact Or.inl (if_pos c)
  · rw [if_neg c]
    by_cases d : 0 < sHa σ i
    · exact Or.inr ⟨c, d, if_pos d⟩
    · exact Or.inl (if_neg d)
theorem invT_give {B : Nat} {σ : PS} (hT : InvT B σ) (a : Int32) : InvT B (giveO σ a).2.2 := by
  have h10 := hT.1.1
  rcases ix_c hT.1 a with ⟨h, -⟩ | ⟨i, hi, -, h⟩
  · unfold giveO
    rw [h]
    exact hT
  · by_cases hb : wBor σ i
    · obtain ⟨j, hj, hw⟩ := wear_ne hT.1 hi hb.1
      rw [giveM hT.1 h hj hw hb]
      have hne : j ≠ i := fun q => hb.2 (by rw [hw, q])
      have hm : ¬ nI j = -1 := nI_m1 (by omega)
      have hij : ¬ nI i = nI j := fun q => hne ((nI_eq (by omega) (by omega)).mp q).symm
      dsimp only
      rw [show sWe (setWe σ (upd (sWe σ) i (backW σ i))) j = sWe σ j from pk_un hne]
      by_cases c : sWe σ j = -1
      · rw [if_pos c]
        have vj : upd (upd (sWe σ) i (backW σ i)) j (nI j) j = nI j := pk_us
        have vi : upd (upd (sWe σ) i (backW σ i)) j (nI j) i = backW σ i := (pk_un hne.symm).trans pk_us
        have vx : ∀ x, x ≠ i → x ≠ j → upd (upd (sWe σ) i (backW σ i)) j (nI j) x = sWe σ x := fun x h1 h2 => (pk_un h2).trans (pk_un h1)
        refine invT_we hT (fun x hx => ?_) (fun x y hx hy e => ?_)
        · by_cases c1 : x = i
          · subst c1
            rw [vi]
            rcases backW_c (σ := σ) (i := x) with q | ⟨-, q2, q3⟩
            · exact Or.inl q
            · exact Or.inr ⟨x, hx, q3, ne0_of_lt q2⟩
          · by_cases c2 : x = j
            · subst c2
              exact Or.inr ⟨x, hx, vj, hT.2.2.1 i x hi hx hw⟩
            · rw [vx x c1 c2]
              exact we_old hT hx
        · by_cases c1 : x = i
          · subst c1
            rw [vi] at e ⊢
            rcases backW_c (σ := σ) (i := x) with q | ⟨q1, q2, q3⟩
            · exact Or.inl q
            · by_cases d1 : y = x
              · exact Or.inr d1.symm
              · by_cases d2 : y = j
                · subst d2
                  rw [vj, q3] at e
                  exact absurd e hij
                · rw [vx y d1 d2, q3] at e
                  exact absurd ⟨y, hy, d1, e.symm⟩ q1
          · by_cases c2 : x = j
            · subst c2
              rw [vj] at e
              by_cases d1 : y = i
              · subst d1
                rw [vi] at e
                rcases backW_c (σ := σ) (i := y) with q | ⟨q1, q2, q3⟩
                · exact absurd (e.trans q) hm
                · exact absurd (e.trans q3).symm hij
              · by_cases d2 : y = x
                · exact Or.inr d2.symm
                · rw [vx y d1 d2] at e
                  rcases hT.2.2.2.1 i y hi hy (hw.trans e) with q | q
                  · exact absurd (hw.symm.trans q) hm
                  · exact absurd q.symm d1
            · rw [vx x c1 c2] at e ⊢
              by_cases d1 : y = i
              · subst d1
                rw [vi] at e
                rcases backW_c (σ := σ) (i := y) with q | ⟨q1, q2, q3⟩
                · exact Or.inl (e.trans q)
                · exact absurd ⟨x, hx, c1, e.trans q3⟩ q1
              · by_cases d2 : y = j
                · subst d2
                  rw [vj] at e
                  rcases hT.2.2.2.1 i x hi hx (hw.trans e.symm) with q | q
                  · exact absurd (hw.symm.trans q) hm
                  · exact absurd q.symm c1
                · rw [vx y d1 d2] at e
                  exact hT.2.2.2.1 x y hx hy e
      · rw [if_neg c]
        have vi : upd (sWe σ) i (backW σ i) i = backW σ i := pk_us
        have vx : ∀ x, x ≠ i → upd (sWe σ) i (backW σ i) x = sWe σ x := fun x h1 => pk_un h1
        refine invT_we hT (fun x hx => ?_) (fun x y hx hy e => ?_)
        · by_cases c1 : x = i
          · subst c1
            rw [vi]
            rcases backW_c (σ := σ) (i := x) with q | ⟨-, q2, q3⟩
            · exact Or.inl q
            · exact Or.inr ⟨x, hx, q3, ne0_of_lt q2⟩
          · rw [vx x c1]
            exact we_old hT hx
        · by_cases c1 : x = i
          · subst c1
            rw [vi] at e ⊢
            rcases backW_c (σ := σ) (i := x) with q | ⟨q1, q2, q3⟩
            · exact Or.inl q
            · by_cases d1 : y = x
              · exact Or.inr d1.symm
              · rw [vx y d1, q3] at e
                exact absurd ⟨y, hy, d1, e.symm⟩ q1
          · rw [vx x c1] at e ⊢
            by_cases d1 : y = i
            · subst d1
              rw [vi] at e
              rcases backW_c (σ := σ) (i := y) with q | ⟨q1, q2, q3⟩
              · exact Or.inl (e.trans q)
              · exact absurd ⟨x, hx, c1, e.trans q3⟩ q1
            · rw [vx y d1] at e
              exact hT.2.2.2.1 x y hx hy e
    · unfold giveO
      rw [h]
      dsimp only
      rw [if_neg hb]
      exact hT
theorem invT_joinS {B : Nat} {σ : PS} (hT : InvT B σ) {a b : Int32} (hk : sK σ < 10) {x y : Nat} (h1 : 1 ≤ x) (h2 : x ≤ 99) (ha : a = nI x) (hy : y ≤ 20) (hb : b = nI y) : InvT B (joinS σ a b) := by
  have h10 := hT.1.1
  have wk : sWe (joinS σ a b) (sK σ) = (if 0 < b then nI (sK σ) else -1) := pk_us
  have wx : ∀ i, i ≠ sK σ → sWe (joinS σ a b) i = sWe σ i := fun i h => pk_un h
  have ak : sHa (joinS σ a b) (sK σ) = b := pk_us
  have ax : ∀ i, i ≠ sK σ → sHa (joinS σ a b) i = sHa σ i := fun i h => pk_un h
  have ek : sHe (joinS σ a b) (sK σ) = a := pk_us
  have ex : ∀ i, i ≠ sK σ → sHe (joinS σ a b) i = sHe σ i := fun i h => pk_un h
  refine ⟨⟨by show sK σ + 1 ≤ 10; omega, hT.1.2.1, hT.1.2.2.1, fun i hi => ?_⟩, fun i hi => ?_, fun i j hi hj h => ?_, fun i j hi hj h => ?_, fun i hi => hT.2.2.2.2 i (by have hi : sK σ + 1 ≤ i := hi; omega)⟩
  · have hi : i < sK σ + 1 := hi
    by_cases c : i = sK σ
    · subst c
      rw [wk]
      by_cases d : 0 < b
      · exact Or.inr ⟨sK σ, by show sK σ < sK σ + 1; omega, if_pos d⟩
      · exact Or.inl (if_neg d)
    · rw [wx i c]
      rcases wear_cases hT.1 (show i < sK σ by omega) with e | ⟨j, hj, e⟩
      · exact Or.inl e
      · exact Or.inr ⟨j, by show j < sK σ + 1; omega, e⟩
  · have hi : i < sK σ + 1 := hi
    by_cases c : i = sK σ
    · subst c
      exact ⟨⟨x, h1, h2, ek.trans ha⟩, ⟨y, hy, ak.trans hb⟩, ⟨0, by omega, (hT.2.2.2.2 (sK σ) (Nat.le_refl _)).1⟩⟩
    · rw [ex i c, ax i c]
      exact hT.2.1 i (by omega)
  · have hi : i < sK σ + 1 := hi
    have hj : j < sK σ + 1 := hj
    by_cases c : i = sK σ
    · subst c
      rw [wk] at h
      by_cases d : 0 < b
      · rw [if_pos d] at h
        have e : sK σ = j := (nI_eq (by omega) (by omega)).mp h
        rw [← e, ak]
        exact ne0_of_lt d
      · rw [if_neg d] at h
        exact absurd h.symm (nI_m1 (by omega))
    · rw [wx i c] at h
      rcases wear_cases hT.1 (show i < sK σ by omega) with e | ⟨z, hz, e⟩
      · exact absurd (h.symm.trans e) (nI_m1 (by omega))
      · have e2 : z = j := (nI_eq (by omega) (by omega)).mp (e.symm.trans h)
        rw [ax j (by omega)]
        exact hT.2.2.1 i j (by omega) (by omega) h
  · have hi : i < sK σ + 1 := hi
    have hj : j < sK σ + 1 := hj
    have key : ∀ z, z < sK σ → sWe σ z = nI (sK σ) → False := fun z hz e => by
      rcases wear_cases hT.1 hz with q | ⟨t, ht, q⟩
      · exact nI_m1 (by omega) (e.symm.trans q)
      · have := (nI_eq (by omega) (by omega)).mp (e.symm.trans q)
        omega
    by_cases c : i = sK σ
    · subst c
      by_cases d : j = sK σ
      · exact Or.inr d.symm
      · rw [wk, wx j d] at h
        rw [wk]
        by_cases g : 0 < b
        · rw [if_pos g] at h
          exact (key j (by omega) h.symm).elim
        · exact Or.inl (if_neg g)
    · rw [wx i c] at h ⊢
      by_cases d : j = sK σ
      · subst d
        rw [wk] at h
        by_cases g : 0 < b
        · rw [if_pos g] at h
          exact (key i (by omega) h).elim
        · rw [if_neg g] at h
          exact Or.inl h
      · rw [wx j d] at h
        exact hT.2.2.2.1 i j (by omega) (by omega) h
theorem invT_join {B : Nat} {σ : PS} (hT : InvT B σ) (a b : Int32) : InvT B (joinO σ a b).2.2 := by
  unfold joinO
  split
  · exact hT
  · split
    · split
      · exact hT
      · split
        · split
          · rename_i c1 c2 c3 c4 c5
            have h0 : ¬ a < 0 := fun q => c1 (Int32.lt_trans q (by decide))
            obtain ⟨x, hx, ex⟩ := nI_of2 (M := 99) (n := 99) (by decide) h0 c2
            obtain ⟨y, hy, ey⟩ := nI_of2 (M := 20) (n := 20) (by decide) c3 c4
            refine invT_joinS hT (k_lt hT.1 ((lt_10 hT.1.1).mp c5)) ?_ hx ex hy ey
            rcases Nat.eq_zero_or_pos x with q | q
            · exact absurd (by rw [ex, q]; decide) c1
            · exact q
          · exact hT
        · exact hT
    · exact hT
