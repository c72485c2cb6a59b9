/-! THE SOCIETY'S CELLS AS A LIST, for the rows that write -/
abbrev socT (cs : Cs) (ρ : Rf) (σ : PS) : va_W := if sK σ = 0 then [] else [(r_e ρ, .inl (cs.2.1, 10, .inr (.inr (.inr (.inr (elm (r_a ρ) (sK σ)))))))]
def socW (cs : Cs) (ρ : Rf) (σ : PS) : va_W := (r_h ρ, .inr (2, [.ref (r_q ρ), .int (sHr σ), .int (sSz σ), .int (sRv σ)])) :: (r_q ρ, .inr (0, [.int (r_m ρ), .ref (r_e ρ), .int (nI (sK σ))])) :: ((List.range (sK σ)).map (fun i => (r_a ρ i, .inr (1, memF (r_a ρ) σ i))) ++ socT cs ρ σ)
theorem socW_at {cs : Cs} {ρ : Rf} {σ : PS} {i : Nat} (hi : i < sK σ) : (socW cs ρ σ)[2 + i]? = some (r_a ρ i, .inr (1, memF (r_a ρ) σ i)) := by
  unfold socW
  rw [show 2 + i = i + 1 + 1 by omega, List.getElem?_cons_succ, List.getElem?_cons_succ, List.getElem?_append_left (by simpa using hi)]
  simp [hi]
theorem socW_arr {cs : Cs} {ρ : Rf} {σ : PS} (h0 : 0 < sK σ) : (socW cs ρ σ)[2 + sK σ]? = some (r_e ρ, .inl (cs.2.1, 10, .inr (.inr (.inr (.inr (elm (r_a ρ) (sK σ))))))) := by
  unfold socW socT
  rw [show 2 + sK σ = sK σ + 1 + 1 by omega, List.getElem?_cons_succ, List.getElem?_cons_succ, List.getElem?_append_right (by simp), if_neg (by omega)]
  simp
theorem socW_inv {cs : Cs} {ρ : Rf} {σ : PS} {k : Nat} {q : Nat × va_E} (hk : (socW cs ρ σ)[k]? = some q) :
    (k = 0 ∧ q = (r_h ρ, .inr (2, [.ref (r_q ρ), .int (sHr σ), .int (sSz σ), .int (sRv σ)]))) ∨ (k = 1 ∧ q = (r_q ρ, .inr (0, [.int (r_m ρ), .ref (r_e ρ), .int (nI (sK σ))]))) ∨
    (∃ i, i < sK σ ∧ k = 2 + i ∧ q = (r_a ρ i, .inr (1, memF (r_a ρ) σ i))) ∨ (0 < sK σ ∧ k = 2 + sK σ ∧ q = (r_e ρ, .inl (cs.2.1, 10, .inr (.inr (.inr (.inr (elm (r_a ρ) (sK σ)))))))) := by
  rcases Nat.lt_or_ge k 2 with h2 | h2
  · rcases (show k = 0 ∨ k = 1 by omega) with rfl | rfl
    · exact Or.inl ⟨rfl, (Option.some.inj hk).symm⟩
    · exact Or.inr (Or.inl ⟨rfl, (Option.some.inj hk).symm⟩)
  · obtain ⟨n, rfl⟩ : ∃ n, k = 2 + n := ⟨k - 2, by omega⟩
    by_cases hn : n < sK σ
    · rw [socW_at hn] at hk
      exact Or.inr (Or.inr (Or.inl ⟨n, hn, rfl, (Option.some.inj hk).symm⟩))
    · have hl : 2 + n < (socW cs ρ σ).length := (List.getElem?_eq_some_iff.mp hk).1
      by_cases h0 : sK σ = 0
      · simp [socW, socT, h0] at hl
        omega
      · simp [socW, socT, h0] at hl
        have e : n = sK σ := by omega
        subst e
        rw [socW_arr (by omega)] at hk
        exact Or.inr (Or.inr (Or.inr ⟨by omega, rfl, (Option.some.inj hk).symm⟩))
theorem soc_P {D : va_G} {cs : Cs} {ρ : Rf} {σ : PS} {H : Heap} (h : Soc D cs ρ σ H) : va_P D vwCl (socW cs ρ σ) H := by
  intro k q hk
  rcases socW_inv hk with ⟨-, e⟩ | ⟨-, e⟩ | ⟨i, hi, -, e⟩ | ⟨h0, -, e⟩
  · rw [e]; exact h.1
  · rw [e]; exact h.2.1.1
  · rw [e]; exact h.2.2 i hi
  · rw [e]; exact h.2.1.2 h0
theorem P_soc {D : va_G} {cs : Cs} {ρ : Rf} {σ : PS} {H : Heap} (h : va_P D vwCl (socW cs ρ σ) H) : Soc D cs ρ σ H :=
  ⟨h 0 _ rfl, ⟨h 1 _ rfl, fun h0 => h _ _ (socW_arr h0)⟩, fun _ hi => h _ _ (socW_at hi)⟩
theorem soc_D {cs : Cs} {ρ : Rf} {σ : PS} {A : Nat → Prop} (hap : AptA ρ (sK σ)) (hA : ∀ q, ownB ρ (sK σ) q → A q) : va_D A (socW cs ρ σ) := by
  obtain ⟨hJ, h1, h2, h3⟩ := hap
  refine ⟨fun i j x y hi hj hxy => ?_, fun k q hk => ?_⟩
  · rcases socW_inv hi with ⟨a1, e1⟩ | ⟨a1, e1⟩ | ⟨i1, hi1, a1, e1⟩ | ⟨h01, a1, e1⟩ <;> rcases socW_inv hj with ⟨a2, e2⟩ | ⟨a2, e2⟩ | ⟨i2, hi2, a2, e2⟩ | ⟨h02, a2, e2⟩ <;> rw [e1, e2] at hxy <;> dsimp only at hxy
    · omega
    · exact absurd hxy h1
    · exact absurd hxy.symm (h2 i2 hi2).1
    · exact absurd hxy (h3 h02).1
    · exact absurd hxy.symm h1
    · omega
    · exact absurd hxy.symm (h2 i2 hi2).2.1
    · exact absurd hxy (h3 h02).2
    · exact absurd hxy (h2 i1 hi1).1
    · exact absurd hxy (h2 i1 hi1).2.1
    · have := hJ i1 i2 hi1 hi2 hxy
      omega
    · exact absurd hxy (h2 i1 hi1).2.2
    · exact absurd hxy.symm (h3 h01).1
    · exact absurd hxy.symm (h3 h01).2
    · exact absurd hxy.symm (h2 i2 hi2).2.2
    · omega
  · refine hA _ ?_
    rcases socW_inv hk with ⟨-, e⟩ | ⟨-, e⟩ | ⟨i, hi, -, e⟩ | ⟨h0, -, e⟩ <;> rw [e]
    · exact Or.inl rfl
    · exact Or.inr (Or.inl rfl)
    · exact Or.inr (Or.inr (Or.inr ⟨i, hi, rfl⟩))
    · exact Or.inr (Or.inr (Or.inl ⟨h0, rfl⟩))
theorem soc_set {cs : Cs} {ρ : Rf} {σ σ' : PS} {i : Nat} {x : List Value} (hi : i < sK σ) (e1 : sK σ' = sK σ) (e2 : σ'.2.1 = σ.2.1) (h1 : x = memF (r_a ρ) σ' i) (h2 : ∀ j, j ≠ i → memF (r_a ρ) σ' j = memF (r_a ρ) σ j) :
    (socW cs ρ σ).set (2 + i) (r_a ρ i, .inr (1, x)) = socW cs ρ σ' := by
  apply List.ext_getElem?
  intro j
  have hl : 2 + i < (socW cs ρ σ).length := (List.getElem?_eq_some_iff.mp (socW_at hi)).1
  by_cases hj : j = 2 + i
  · subst hj
    rw [List.getElem?_set_self hl, socW_at (by rw [e1]; exact hi), h1]
  · rw [List.getElem?_set_ne (Ne.symm hj)]
    unfold socW socT
    rcases Nat.lt_or_ge j 2 with h | h
    · rcases (show j = 0 ∨ j = 1 by omega) with rfl | rfl
      · simp only [List.getElem?_cons_zero, sHr, sSz, sRv, e2]
      · simp only [List.getElem?_cons_succ, List.getElem?_cons_zero, e1]
    · obtain ⟨n, rfl⟩ : ∃ n, j = n + 1 + 1 := ⟨j - 2, by omega⟩
      rw [List.getElem?_cons_succ, List.getElem?_cons_succ, List.getElem?_cons_succ, List.getElem?_cons_succ, e1]
      by_cases hn : n < sK σ
      · rw [List.getElem?_append_left (by simpa using hn), List.getElem?_append_left (by simpa using hn)]
        have hni : n ≠ i := by omega
        simp [hn, h2 n hni]
      · rw [List.getElem?_append_right (by simpa using hn), List.getElem?_append_right (by simpa using hn)]
        simp
theorem m_Pu {ad : Nat → Nat} {σ : PS} {i : Nat} {v : Int32} : (memF ad σ i).set 3 (.int v) = memF ad (setPu σ (upd (sPu σ) i v)) i := by
  unfold memF
  rw [show sPu (setPu σ (upd (sPu σ) i v)) i = v from pk_us]
  rfl
theorem m_Pu_o {ad : Nat → Nat} {σ : PS} {i j : Nat} {v : Int32} (h : j ≠ i) : memF ad (setPu σ (upd (sPu σ) i v)) j = memF ad σ j := by
  unfold memF
  rw [show sPu (setPu σ (upd (sPu σ) i v)) j = sPu σ j from pk_un h]
theorem m_La {ad : Nat → Nat} {σ : PS} {i : Nat} {v : Int32} : (memF ad σ i).set 4 (.int v) = memF ad (setLa σ (upd (sLa σ) i v)) i := by
  unfold memF
  rw [show sLa (setLa σ (upd (sLa σ) i v)) i = v from pk_us]
  rfl
theorem m_La_o {ad : Nat → Nat} {σ : PS} {i j : Nat} {v : Int32} (h : j ≠ i) : memF ad (setLa σ (upd (sLa σ) i v)) j = memF ad σ j := by
  unfold memF
  rw [show sLa (setLa σ (upd (sLa σ) i v)) j = sLa σ j from pk_un h]
theorem m_We {ad : Nat → Nat} {σ : PS} {i : Nat} {w : Int32} : (memF ad σ i).set 5 (va_rf (ownO ad w)) = memF ad (setWe σ (upd (sWe σ) i w)) i := by
  unfold memF
  rw [show sWe (setWe σ (upd (sWe σ) i w)) i = w from pk_us]
  rfl
theorem m_We_o {ad : Nat → Nat} {σ : PS} {i j : Nat} {w : Int32} (h : j ≠ i) : memF ad (setWe σ (upd (sWe σ) i w)) j = memF ad σ j := by
  unfold memF
  rw [show sWe (setWe σ (upd (sWe σ) i w)) j = sWe σ j from pk_un h]
theorem m_Ce {ad : Nat → Nat} {σ : PS} {i : Nat} {v : Int32} : (memF ad σ i).set 6 (.int v) = memF ad (setCe σ (upd (sCe σ) i v)) i := by
  unfold memF
  rw [show sCe (setCe σ (upd (sCe σ) i v)) i = v from pk_us]
  rfl
theorem m_Ce_o {ad : Nat → Nat} {σ : PS} {i j : Nat} {v : Int32} (h : j ≠ i) : memF ad (setCe σ (upd (sCe σ) i v)) j = memF ad σ j := by
  unfold memF
  rw [show sCe (setCe σ (upd (sCe σ) i v)) j = sCe σ j from pk_un h]
theorem m_At {ad : Nat → Nat} {σ : PS} {i : Nat} {v : Int32} : (memF ad σ i).set 7 (.int v) = memF ad (setAt σ (upd (sAt σ) i v)) i := by
  unfold memF
  rw [show sAt (setAt σ (upd (sAt σ) i v)) i = v from pk_us]
  rfl
theorem m_At_o {ad : Nat → Nat} {σ : PS} {i j : Nat} {v : Int32} (h : j ≠ i) : memF ad (setAt σ (upd (sAt σ) i v)) j = memF ad σ j := by
  unfold memF
  rw [show sAt (setAt σ (upd (sAt σ) i v)) j = sAt σ j from pk_un h]
theorem m_Lo {ad : Nat → Nat} {σ : PS} {i : Nat} {v : Int32} : (memF ad σ i).set 8 (.int v) = memF ad (setLo σ (upd (sLo σ) i v)) i := by
  unfold memF
  rw [show sLo (setLo σ (upd (sLo σ) i v)) i = v from pk_us]
  rfl
theorem m_Lo_o {ad : Nat → Nat} {σ : PS} {i j : Nat} {v : Int32} (h : j ≠ i) : memF ad (setLo σ (upd (sLo σ) i v)) j = memF ad σ j := by
  unfold memF
  rw [show sLo (setLo σ (upd (sLo σ) i v)) j = sLo σ j from pk_un h]
theorem s_Pu {cs : Cs} {ρ : Rf} {σ : PS} {i : Nat} {v : Int32} (hi : i < sK σ) : (socW cs ρ σ).set (2 + i) (r_a ρ i, .inr (1, (memF (r_a ρ) σ i).set 3 (.int v))) = socW cs ρ (setPu σ (upd (sPu σ) i v)) := soc_set hi rfl rfl m_Pu (fun _ h => m_Pu_o h)
theorem s_La {cs : Cs} {ρ : Rf} {σ : PS} {i : Nat} {v : Int32} (hi : i < sK σ) : (socW cs ρ σ).set (2 + i) (r_a ρ i, .inr (1, (memF (r_a ρ) σ i).set 4 (.int v))) = socW cs ρ (setLa σ (upd (sLa σ) i v)) := soc_set hi rfl rfl m_La (fun _ h => m_La_o h)
theorem s_WeN {cs : Cs} {ρ : Rf} {σ : PS} {i : Nat} (hi : i < sK σ) : (socW cs ρ σ).set (2 + i) (r_a ρ i, .inr (1, (memF (r_a ρ) σ i).set 5 .null)) = socW cs ρ (setWe σ (upd (sWe σ) i (-1))) := soc_set hi rfl rfl ((by rw [own_n (ad := r_a ρ) (w := -1) rfl]; rfl : (memF (r_a ρ) σ i).set 5 .null = (memF (r_a ρ) σ i).set 5 (va_rf (ownO (r_a ρ) (-1)))).trans m_We) (fun _ h => m_We_o h)
theorem s_WeS {cs : Cs} {ρ : Rf} {σ : PS} {i j : Nat} (hi : i < sK σ) (hj : j < 2 ^ 31) : (socW cs ρ σ).set (2 + i) (r_a ρ i, .inr (1, (memF (r_a ρ) σ i).set 5 (.ref (r_a ρ j)))) = socW cs ρ (setWe σ (upd (sWe σ) i (nI j))) := soc_set hi rfl rfl ((by rw [own_s (ad := r_a ρ) (w := nI j) hj rfl]; rfl : (memF (r_a ρ) σ i).set 5 (.ref (r_a ρ j)) = (memF (r_a ρ) σ i).set 5 (va_rf (ownO (r_a ρ) (nI j)))).trans m_We) (fun _ h => m_We_o h)
theorem s_Ce {cs : Cs} {ρ : Rf} {σ : PS} {i : Nat} {v : Int32} (hi : i < sK σ) : (socW cs ρ σ).set (2 + i) (r_a ρ i, .inr (1, (memF (r_a ρ) σ i).set 6 (.int v))) = socW cs ρ (setCe σ (upd (sCe σ) i v)) := soc_set hi rfl rfl m_Ce (fun _ h => m_Ce_o h)
theorem s_At {cs : Cs} {ρ : Rf} {σ : PS} {i : Nat} {v : Int32} (hi : i < sK σ) : (socW cs ρ σ).set (2 + i) (r_a ρ i, .inr (1, (memF (r_a ρ) σ i).set 7 (.int v))) = socW cs ρ (setAt σ (upd (sAt σ) i v)) := soc_set hi rfl rfl m_At (fun _ h => m_At_o h)
theorem s_Lo {cs : Cs} {ρ : Rf} {σ : PS} {i : Nat} {v : Int32} (hi : i < sK σ) : (socW cs ρ σ).set (2 + i) (r_a ρ i, .inr (1, (memF (r_a ρ) σ i).set 8 (.int v))) = socW cs ρ (setLo σ (upd (sLo σ) i v)) := soc_set hi rfl rfl m_Lo (fun _ h => m_Lo_o h)
/-- one member's cell was written by a callee: the society as it is then -/
theorem soc_one {D : va_G} {cs : Cs} {ρ : Rf} {σ σ' : PS} {i : Nat} {H H1 : Heap} (hP : Soc D cs ρ σ H) (hap : AptA ρ (sK σ)) (hi : i < sK σ) (e1 : sK σ' = sK σ) (e2 : σ'.2.1 = σ.2.1) (h2 : ∀ j, j ≠ i → memF (r_a ρ) σ' j = memF (r_a ρ) σ j)
    (hat : va_at D vwCl (r_a ρ i, .inr (1, memF (r_a ρ) σ' i)) H1) (hk : ∀ q : Nat, q < H.size → ¬ (q = r_a ρ i ∨ H.size ≤ q) → H1[q]? = H[q]?) : Soc D cs ρ σ' H1 := by
  obtain ⟨hJ, g1, g2, g3⟩ := hap
  have keep : ∀ q : Nat × va_E, va_at D vwCl q H → q.1 ≠ r_a ρ i → va_at D vwCl q H1 := fun q h hq => h.kept (hk q.1 h.lt (fun z => z.elim hq (fun z => absurd h.lt (Nat.not_lt.mpr z))))
  refine ⟨?_, ⟨?_, fun h0 => ?_⟩, fun j hj => ?_⟩
  · have := keep _ hP.1 (Ne.symm (g2 i hi).1)
    simp only [sHr, sSz, sRv, e2]
    exact this
  · have := keep _ hP.2.1.1 (Ne.symm (g2 i hi).2.1)
    rw [e1]
    exact this
  · rw [e1] at h0 ⊢
    exact keep _ (hP.2.1.2 h0) (Ne.symm (g2 i hi).2.2)
  · rw [e1] at hj
    by_cases hji : j = i
    · subst hji
      exact hat
    · rw [h2 j hji]
      exact keep _ (hP.2.2 j hj) (fun z => hji (hJ j i hj hi z))
/-- a loop that writes -/
theorem lv_forH {p : Program} {l : Launch} {e : Env} {R : Room} {s : State} {m : MethodId} {args : Array Value} {below : List Frame} {meth : Method} {c : Code} {H : Heap} {locs : List Loc} {cells slots : Nat} {Q : State → Prop} {A : Nat → Prop} {H0 : Heap} {nL : Nat} {ls : Array Slot} (N : Nat) (g : Array Slot → JFrame) (L : Nat → List (Nat × Value)) (J : Nat → Heap → Prop) (hl : lv_has ls nL (L 0)) (h0 : J 0 H) (hS : va_S A H0 H locs)
    (step : ∀ (i : Nat) (ls : Array Slot) (H : Heap) (locs : List Loc), i < N → J i H → va_S A H0 H locs → lv_has ls nL (L i) → (∀ (ls' : Array Slot) (H' : Heap) (locs' : List Loc), J (i + 1) H' → va_S A H0 H' locs' → lv_has ls' nL (L (i + 1)) → W p l e R s m args below meth c H' locs' cells slots Q (g ls')) → W p l e R s m args below meth c H locs cells slots Q (g ls))
    (fin : ∀ (ls : Array Slot) (H : Heap) (locs : List Loc), J N H → va_S A H0 H locs → lv_has ls nL (L N) → W p l e R s m args below meth c H locs cells slots Q (g ls)) : W p l e R s m args below meth c H locs cells slots Q (g ls) := by
  have key : ∀ (n i : Nat), i + n = N → ∀ (ls : Array Slot) (H : Heap) (locs : List Loc), J i H → va_S A H0 H locs → lv_has ls nL (L i) → W p l e R s m args below meth c H locs cells slots Q (g ls) := by
    intro n
    induction n with
    | zero =>
      intro i hi ls H locs hJ hS h
      rw [Nat.add_zero] at hi
      subst hi
      exact fin ls H locs hJ hS h
    | succ n ih =>
      intro i hi ls H locs hJ hS h
      exact step i ls H locs (by omega) hJ hS h (fun ls' H' locs' hJ' hS' h' => ih (i + 1) (by omega) ls' H' locs' hJ' hS' h')
  exact key N 0 (Nat.zero_add N) ls H locs h0 hS hl
theorem vs_up {A B : Nat → Prop} {H0 H : Heap} {locs : List Loc} (h : va_S A H0 H locs) (hAB : ∀ q, A q → B q) : va_S B H0 H locs := ⟨h.1, fun q a b => h.2.1 q a (fun z => b (hAB q z)), fun q a => hAB _ (h.2.2 q a)⟩
theorem invS_we {B : Nat} {σ : PS} (hI : InvS B σ) {i : Nat} {w : Int32} (hw : w = -1 ∨ ∃ j, j < sK σ ∧ w = nI j) : InvS B (setWe σ (upd (sWe σ) i w)) := by
  refine ⟨hI.1, hI.2.1, hI.2.2.1, fun x hx => ?_⟩
  by_cases h : x = i
  · subst h
    rw [show sWe (setWe σ (upd (sWe σ) x w)) x = w from pk_us]
    exact hw
  · rw [show sWe (setWe σ (upd (sWe σ) i w)) x = sWe σ x from pk_un h]
    exact hI.2.2.2 x hx
/-! what a 'new X(text)' of the society needs: its words -/
abbrev nms2 : List String := ["java/lang/RuntimeException", "java/lang/Exception"]
theorem hatB_eIae : ∀ w ∈ (vx_atS RX1 30 "java/lang/IllegalArgumentException" nms2).filter (fun w => !goodWord w), w ∈ [Cond.castable "java/lang/IllegalArgumentException" "java/lang/IllegalArgumentException", Cond.declares ⟨"java/lang/RuntimeException", "<init>", "(Ljava/lang/String;)V"⟩, Cond.declares ⟨"java/lang/Exception", "<init>", "(Ljava/lang/String;)V"⟩, Cond.declares ⟨"java/lang/Throwable", "<init>", "(Ljava/lang/String;)V"⟩] := by decide +kernel
theorem hatB_eIse : ∀ w ∈ (vx_atS RX1 43 "java/lang/IllegalStateException" nms2).filter (fun w => !goodWord w), w ∈ [Cond.castable "java/lang/IllegalStateException" "java/lang/IllegalStateException", Cond.declares ⟨"java/lang/RuntimeException", "<init>", "(Ljava/lang/String;)V"⟩, Cond.declares ⟨"java/lang/Exception", "<init>", "(Ljava/lang/String;)V"⟩, Cond.declares ⟨"java/lang/Throwable", "<init>", "(Ljava/lang/String;)V"⟩] := by decide +kernel
theorem hatB_eIob : ∀ w ∈ (vx_atS RX1 145 "java/lang/IndexOutOfBoundsException" nms2).filter (fun w => !goodWord w), w ∈ [Cond.castable "java/lang/IndexOutOfBoundsException" "java/lang/IndexOutOfBoundsException", Cond.declares ⟨"java/lang/RuntimeException", "<init>", "(Ljava/lang/String;)V"⟩, Cond.declares ⟨"java/lang/Exception", "<init>", "(Ljava/lang/String;)V"⟩, Cond.declares ⟨"java/lang/Throwable", "<init>", "(Ljava/lang/String;)V"⟩] := by decide +kernel
theorem hgd_eIae : ∀ w ∈ Cond.classLink RX1 26 "java/lang/IllegalArgumentException" :: Cond.initialized "java/lang/IllegalArgumentException" :: vx_atS RX1 30 "java/lang/IllegalArgumentException" nms2, vx_ot w = true := by decide +kernel
theorem hgd_eIse : ∀ w ∈ Cond.classLink RX1 39 "java/lang/IllegalStateException" :: Cond.initialized "java/lang/IllegalStateException" :: vx_atS RX1 43 "java/lang/IllegalStateException" nms2, vx_ot w = true := by decide +kernel
theorem hgd_eIob : ∀ w ∈ Cond.classLink RX1 141 "java/lang/IndexOutOfBoundsException" :: Cond.initialized "java/lang/IndexOutOfBoundsException" :: vx_atS RX1 145 "java/lang/IndexOutOfBoundsException" nms2, vx_ot w = true := by decide +kernel
theorem hat_eIae {args : Array Value} {s : State} (h1 : ∀ w ∈ (vx_atS RX1 30 "java/lang/IllegalArgumentException" nms2).filter goodWord, w.before args s = true) (hN : Nst s) : ∀ w ∈ vx_atS RX1 30 "java/lang/IllegalArgumentException" nms2, w.before args s = true := vx_hat h1 hatB_eIae (vx_c (hN.use (by decide +kernel)) (vx_c (hN.use (by decide +kernel)) (vx_c (hN.use (by decide +kernel)) (vx_c (hN.use (by decide +kernel)) vx_n))))
theorem hat_eIse {args : Array Value} {s : State} (h1 : ∀ w ∈ (vx_atS RX1 43 "java/lang/IllegalStateException" nms2).filter goodWord, w.before args s = true) (hN : Nst s) : ∀ w ∈ vx_atS RX1 43 "java/lang/IllegalStateException" nms2, w.before args s = true := vx_hat h1 hatB_eIse (vx_c (hN.use (by decide +kernel)) (vx_c (hN.use (by decide +kernel)) (vx_c (hN.use (by decide +kernel)) (vx_c (hN.use (by decide +kernel)) vx_n))))
theorem hat_eIob {args : Array Value} {s : State} (h1 : ∀ w ∈ (vx_atS RX1 145 "java/lang/IndexOutOfBoundsException" nms2).filter goodWord, w.before args s = true) (hN : Nst s) : ∀ w ∈ vx_atS RX1 145 "java/lang/IndexOutOfBoundsException" nms2, w.before args s = true := vx_hat h1 hatB_eIob (vx_c (hN.use (by decide +kernel)) (vx_c (hN.use (by decide +kernel)) (vx_c (hN.use (by decide +kernel)) (vx_c (hN.use (by decide +kernel)) vx_n))))
