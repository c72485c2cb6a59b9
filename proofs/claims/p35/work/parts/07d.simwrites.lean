/-! THE LAW'S OWN SOCIETY: methods that write (laid by wip/p35/gen/simw.py) -/
theorem in_X2_borrow_X2 : ∀ w ∈ wsX20, w ∈ wsX2_borrow := by decide +kernel
set_option maxHeartbeats 4000000 in
set_option maxRecDepth 100000 in
/-- a hat goes over -/
theorem c_X2_borrow (l : Launch) (D : va_G) (cs : Cs) (M : Mf) {B : Nat} {σ : PS} (hI : InvS B σ) (hap : AptS M (sK σ)) (H0 : Heap) (i : Nat) (hi : i < sK σ) (o : Nat) (ho : o < sK σ) : Met l yX2_borrow wsX2_borrow ({ frames := 0, cells := 0, slots := 0, locals := 0 }) (va_Pc [.ref M.1, .int (nI i), .int (nI o)] (RBp D cs (fun X => X = H0 ∧ va_P D vwCl (simW cs M σ) X))) (va_Qv (fun u : PS => u = setWe σ (upd (upd (sWe σ) o (-1)) i (nI o))) (fun u t => va_P D vwCl (simW cs M u) t.heap) (smA M (sK σ) H0)) 0 0 (smA M (sK σ) H0) := by
  refine Met.ofW (cc := cX2_borrow) (maxL := 3) (ret := none) (by decide) rfl ?_
  intro p e s m args below meth c s₁ B0 hml hv
  obtain ⟨rfl, ⟨hH, hP⟩, hK, hN⟩ := hv
  subst hH
  have hx := B0.exec
  have hb := B0.bytes
  have hr := B0.returns
  have hts := atoms_spec (ws := wsX2_borrow) B0.pre
  have hown : s.vm.findClass RX2 = some m.cls := findClass_of_methodNamed B0.named
  have hlocks := B0.notSynchronized
  have hS : va_S (smA M (sK σ) s.heap) s.heap s.heap [] := va_S.rf
  have hl := lv_entry ([.ref M.1, .int (nI i), .int (nI o)]) (n := 3) (Nat.le_of_ble_eq_true rfl)
  rw [lg_entry_eq]
  generalize (lg_sl ([.ref M.1, .int (nI i), .int (nI o)]) ++ List.replicate (3 - (lg_sl ([.ref M.1, .int (nI i), .int (nI o)])).length) Slot.unset).toArray = ls at hl ⊢
  have hl : lv_has ls 3 [(0, .ref M.1), (1, .int (nI i)), (2, .int (nI o))] := hl
  refine lv_aload_n hx hb dX2_borrow_0 rfl (lv_at hl 0 rfl) ?_
  refine va_get (D := D) (ci := 3) (v := .ref M.2.1) (C := RX2) (T := TX2) (N := 4) hx hb hts in_X2_borrow_X2 hown hK hP 0 rfl rfl 3 (by decide) (hts (.fieldLink RX2 9 "ShadowSocietyLaw$Sim" "members" "[[I") (List.mem_of_getElem? (i := 1) (by decide +kernel))) (fun _ h9 => h9) rfl dX2_borrow_1 ?_
  refine lv_iload_n hx hb dX2_borrow_4 rfl (lv_at hl 2 rfl) ?_
  refine va_aldA hx hb hK hP 1 2 rfl rfl (vp_in_nI ho (by have := hI.1; omega)) (elm_at ho hI.1) dX2_borrow_5 ?_
  refine lv_iconst (v := 4) hx hb dX2_borrow_6 (by decide) ?_
  refine lv_iconst (v := (-1)) hx hb dX2_borrow_7 (by decide) ?_
  refine va_iast hx hb hK hP (sim_D hap (fun q h => Or.inl h)) hS (2 + o) 0 (simW_at ho) rfl (by unfold vp_in; decide) dX2_borrow_8 (fun H locs hP hD hS => ?_)
  rw [show (4 : Int32).toNatClampNeg = 4 from rfl, t_We (σ := σ) ho] at hP
  have hP : va_P D vwCl (simW cs M (setWe σ (upd (sWe σ) o (-1)))) H := hP
  have hI_1 : InvS B (setWe σ (upd (sWe σ) o (-1))) := invS_we hI (Or.inl rfl)
  refine lv_aload_n hx hb dX2_borrow_9 rfl (lv_at hl 0 rfl) ?_
  refine va_get (D := D) (ci := 3) (v := .ref M.2.1) (C := RX2) (T := TX2) (N := 4) hx hb hts in_X2_borrow_X2 hown hK hP 0 rfl rfl 3 (by decide) (hts (.fieldLink RX2 9 "ShadowSocietyLaw$Sim" "members" "[[I") (List.mem_of_getElem? (i := 1) (by decide +kernel))) (fun _ h9 => h9) rfl dX2_borrow_10 ?_
  refine lv_iload_n hx hb dX2_borrow_13 rfl (lv_at hl 1 rfl) ?_
  refine va_aldA hx hb hK hP 1 2 rfl rfl (vp_in_nI hi (by have := hI_1.1; omega)) (elm_at hi hI_1.1) dX2_borrow_14 ?_
  refine lv_iconst (v := 4) hx hb dX2_borrow_15 (by decide) ?_
  refine lv_iload_n hx hb dX2_borrow_16 rfl (lv_at hl 2 rfl) ?_
  refine va_iast hx hb hK hP (sim_D hap (fun q h => Or.inl h)) hS (2 + i) 0 (simW_at hi) rfl (by unfold vp_in; decide) dX2_borrow_17 (fun H locs hP hD hS => ?_)
  rw [show (4 : Int32).toNatClampNeg = 4 from rfl, t_We (σ := (setWe σ (upd (sWe σ) o (-1)))) hi] at hP
  have hP : va_P D vwCl (simW cs M (setWe (setWe σ (upd (sWe σ) o (-1))) (upd (sWe (setWe σ (upd (sWe σ) o (-1)))) i (nI o)))) H := hP
  have hI_2 : InvS B (setWe (setWe σ (upd (sWe σ) o (-1))) (upd (sWe (setWe σ (upd (sWe σ) o (-1)))) i (nI o))) := invS_we hI_1 (Or.inr ⟨o, ho, rfl⟩)
  exact W.vret hx hb hr (fun t ht hW => ⟨⟨setWe (setWe σ (upd (sWe σ) o (-1))) (upd (sWe (setWe σ (upd (sWe σ) o (-1)))) i (nI o)), rfl, rfl, by show va_P D vwCl (simW cs M _) t.heap; rw [ht]; exact hP⟩, hS.F ht⟩) hS.2.2 dX2_borrow_18
theorem in_X2_giveBack_X2 : ∀ w ∈ wsX20, w ∈ wsX2_giveBack := by decide +kernel
set_option maxHeartbeats 4000000 in
set_option maxRecDepth 100000 in
/-- a hat goes back -/
theorem c_X2_giveBack (l : Launch) (D : va_G) (cs : Cs) (M : Mf) {B : Nat} {σ : PS} (hI : InvS B σ) (hap : AptS M (sK σ)) (H0 : Heap) (i : Nat) (hi : i < sK σ) (j : Nat) (hj : j < sK σ) (hw : sWe σ i = nI j) (hji : j ≠ i) : Met l yX2_giveBack wsX2_giveBack ({ frames := 1, cells := 0, slots := 0, locals := 22 }) (va_Pc [.ref M.1, .int (nI i)] (RBp D cs (fun X => X = H0 ∧ va_P D vwCl (simW cs M σ) X))) (va_Qi (fun (r : Int32) (u : PS) => r = nI j ∧ giveO σ (nI i) = (0, nI j, u)) (fun u t => va_P D vwCl (simW cs M u) t.heap) (smA M (sK σ) H0)) 0 0 (smA M (sK σ) H0) := by
  refine Met.ofW (cc := cX2_giveBack) (maxL := 3) (ret := (some .int)) (by decide) rfl ?_
  intro p e s m args below meth c s₁ B0 hml hv
  obtain ⟨rfl, ⟨hH, hP⟩, hK, hN⟩ := hv
  subst hH
  have hx := B0.exec
  have hb := B0.bytes
  have hr := B0.returns
  have hts := atoms_spec (ws := wsX2_giveBack) B0.pre
  have hown : s.vm.findClass RX2 = some m.cls := findClass_of_methodNamed B0.named
  have hlocks := B0.notSynchronized
  have hS : va_S (smA M (sK σ) s.heap) s.heap s.heap [] := va_S.rf
  have hbo : wBor σ i := ⟨by rw [hw]; exact nI_m1 (by have := hI.1; omega), by rw [hw]; exact fun q => hji ((nI_eq (by have := hI.1; omega) (by have := hI.1; omega)).mp q)⟩
  have hl := lv_entry ([.ref M.1, .int (nI i)]) (n := 3) (Nat.le_of_ble_eq_true rfl)
  rw [lg_entry_eq]
  generalize (lg_sl ([.ref M.1, .int (nI i)]) ++ List.replicate (3 - (lg_sl ([.ref M.1, .int (nI i)])).length) Slot.unset).toArray = ls at hl ⊢
  have hl : lv_has ls 3 [(0, .ref M.1), (1, .int (nI i))] := hl
  refine lv_aload_n hx hb dX2_giveBack_0 rfl (lv_at hl 0 rfl) ?_
  refine va_get (D := D) (ci := 3) (v := .ref M.2.1) (C := RX2) (T := TX2) (N := 4) hx hb hts in_X2_giveBack_X2 hown hK hP 0 rfl rfl 3 (by decide) (hts (.fieldLink RX2 9 "ShadowSocietyLaw$Sim" "members" "[[I") (List.mem_of_getElem? (i := 1) (by decide +kernel))) (fun _ h9 => h9) rfl dX2_giveBack_1 ?_
  refine lv_iload_n hx hb dX2_giveBack_4 rfl (lv_at hl 1 rfl) ?_
  refine va_aldA hx hb hK hP 1 2 rfl rfl (vp_in_nI hi (by have := hI.1; omega)) (elm_at hi hI.1) dX2_giveBack_5 ?_
  refine lv_iconst (v := 4) hx hb dX2_giveBack_6 (by decide) ?_
  refine va_iald hx hb hK hP (2 + i) 0 (simW_at hi) rfl (by unfold vp_in; decide) dX2_giveBack_7 ?_
  rw [show rowF σ i (4 : Int32).toNatClampNeg = sWe σ i from rfl]
  refine W.eq (g2 := F0 m 8 ls [.int (nI j)]) (by rw [hw]) ?_
  refine lv_istore_n (lv' := [(2, .int (nI j)), (0, .ref M.1), (1, .int (nI i))]) hx hb dX2_giveBack_8 rfl hl (by decide) rfl (fun ls hl => ?_)
  refine lv_aload_n hx hb dX2_giveBack_9 rfl (lv_at hl 1 rfl) ?_
  refine va_get (D := D) (ci := 3) (v := .ref M.2.1) (C := RX2) (T := TX2) (N := 4) hx hb hts in_X2_giveBack_X2 hown hK hP 0 rfl rfl 3 (by decide) (hts (.fieldLink RX2 9 "ShadowSocietyLaw$Sim" "members" "[[I") (List.mem_of_getElem? (i := 1) (by decide +kernel))) (fun _ h9 => h9) rfl dX2_giveBack_10 ?_
  refine lv_iload_n hx hb dX2_giveBack_13 rfl (lv_at hl 2 rfl) ?_
  refine va_aldA hx hb hK hP 1 2 rfl rfl (vp_in_nI hi (by have := hI.1; omega)) (elm_at hi hI.1) dX2_giveBack_14 ?_
  refine lv_iconst (v := 4) hx hb dX2_giveBack_15 (by decide) ?_
  refine lv_iconst (v := (-1)) hx hb dX2_giveBack_16 (by decide) ?_
  refine va_iast hx hb hK hP (sim_D hap (fun q h => Or.inl h)) hS (2 + i) 0 (simW_at hi) rfl (by unfold vp_in; decide) dX2_giveBack_17 (fun H locs hP hD hS => ?_)
  rw [show (4 : Int32).toNatClampNeg = 4 from rfl, t_We (σ := σ) hi] at hP
  have hP : va_P D vwCl (simW cs M (setWe σ (upd (sWe σ) i (-1)))) H := hP
  have hI_1 : InvS B (setWe σ (upd (sWe σ) i (-1))) := invS_we hI (Or.inl rfl)
  refine lv_aload_n hx hb dX2_giveBack_18 rfl (lv_at hl 1 rfl) ?_
  refine va_get (D := D) (ci := 3) (v := .ref M.2.1) (C := RX2) (T := TX2) (N := 4) hx hb hts in_X2_giveBack_X2 hown hK hP 0 rfl rfl 3 (by decide) (hts (.fieldLink RX2 9 "ShadowSocietyLaw$Sim" "members" "[[I") (List.mem_of_getElem? (i := 1) (by decide +kernel))) (fun _ h9 => h9) rfl dX2_giveBack_19 ?_
  refine lv_iload_n hx hb dX2_giveBack_22 rfl (lv_at hl 2 rfl) ?_
  refine va_aldA hx hb hK hP 1 2 rfl rfl (vp_in_nI hi (by have := hI_1.1; omega)) (elm_at hi hI_1.1) dX2_giveBack_23 ?_
  refine lv_iconst (v := 1) hx hb dX2_giveBack_24 (by decide) ?_
  refine va_iald hx hb hK hP (2 + i) 0 (simW_at hi) rfl (by unfold vp_in; decide) dX2_giveBack_25 ?_
  rw [show rowF (setWe σ (upd (sWe σ) i (-1))) i (1 : Int32).toNatClampNeg = sHa (setWe σ (upd (sWe σ) i (-1))) i from rfl]
  refine lv_if_le (tgt := 46) hx hb dX2_giveBack_26 (by decide) (fun c_2 => ?_) (fun c_2 => ?_)
  · rw [show setWe σ (upd (sWe σ) i (-1)) = setWe σ (upd (sWe σ) i (backW σ i)) from sb_no0 c_2] at hP
    have hI46 : InvS B (setWe σ (upd (sWe σ) i (backW σ i))) := invS_we hI (back_in hi)
    refine lv_aload_n hx hb dX2_giveBack_46 rfl (lv_at hl 1 rfl) ?_
    refine va_get (D := D) (ci := 3) (v := .ref M.2.1) (C := RX2) (T := TX2) (N := 4) hx hb hts in_X2_giveBack_X2 hown hK hP 0 rfl rfl 3 (by decide) (hts (.fieldLink RX2 9 "ShadowSocietyLaw$Sim" "members" "[[I") (List.mem_of_getElem? (i := 1) (by decide +kernel))) (fun _ h9 => h9) rfl dX2_giveBack_47 ?_
    refine lv_iload_n hx hb dX2_giveBack_50 rfl (lv_at hl 0 rfl) ?_
    refine va_aldA hx hb hK hP 1 2 rfl rfl (vp_in_nI hj (by have := hI46.1; omega)) (elm_at hj hI46.1) dX2_giveBack_51 ?_
    refine lv_iconst (v := 4) hx hb dX2_giveBack_52 (by decide) ?_
    refine va_iald hx hb hK hP (2 + j) 0 (simW_at hj) rfl (by unfold vp_in; decide) dX2_giveBack_53 ?_
    rw [show rowF (setWe σ (upd (sWe σ) i (backW σ i))) j (4 : Int32).toNatClampNeg = sWe (setWe σ (upd (sWe σ) i (backW σ i))) j from rfl]
    refine W.eq (g2 := F0 m 54 ls [.int (sWe σ j)]) (by rw [show sWe (setWe σ (upd (sWe σ) i (backW σ i))) j = sWe σ j from pk_un hji]) ?_
    refine lv_if_ge (tgt := 66) hx hb dX2_giveBack_54 (by decide) (fun c_3 => ?_) (fun c_3 => ?_)
    · refine lv_iload_n hx hb dX2_giveBack_66 rfl (lv_at hl 0 rfl) ?_
      exact W.iret (v := nI j) hx hb hr (fun t ht hW => ⟨⟨_, setWe σ (upd (sWe σ) i (backW σ i)), rfl, ⟨rfl, (giveM hI (ix_s hI hi) hj hw hbo).trans (by rw [if_neg (show ¬ sWe (setWe σ (upd (sWe σ) i (backW σ i))) j = -1 from fun q => ge_ne c_3 ((pk_un hji).symm.trans q))])⟩, by show va_P D vwCl (simW cs M _) t.heap; rw [ht]; exact hP⟩, hS.F ht⟩) hS.2.2 dX2_giveBack_67
    · refine lv_aload_n hx hb dX2_giveBack_57 rfl (lv_at hl 1 rfl) ?_
      refine va_get (D := D) (ci := 3) (v := .ref M.2.1) (C := RX2) (T := TX2) (N := 4) hx hb hts in_X2_giveBack_X2 hown hK hP 0 rfl rfl 3 (by decide) (hts (.fieldLink RX2 9 "ShadowSocietyLaw$Sim" "members" "[[I") (List.mem_of_getElem? (i := 1) (by decide +kernel))) (fun _ h9 => h9) rfl dX2_giveBack_58 ?_
      refine lv_iload_n hx hb dX2_giveBack_61 rfl (lv_at hl 0 rfl) ?_
      refine va_aldA hx hb hK hP 1 2 rfl rfl (vp_in_nI hj (by have := hI46.1; omega)) (elm_at hj hI46.1) dX2_giveBack_62 ?_
      refine lv_iconst (v := 4) hx hb dX2_giveBack_63 (by decide) ?_
      refine lv_iload_n hx hb dX2_giveBack_64 rfl (lv_at hl 0 rfl) ?_
      refine va_iast hx hb hK hP (sim_D hap (fun q h => Or.inl h)) hS (2 + j) 0 (simW_at hj) rfl (by unfold vp_in; decide) dX2_giveBack_65 (fun H locs hP hD hS => ?_)
      rw [show (4 : Int32).toNatClampNeg = 4 from rfl, t_We (σ := (setWe σ (upd (sWe σ) i (backW σ i)))) hj] at hP
      have hP : va_P D vwCl (simW cs M (setWe (setWe σ (upd (sWe σ) i (backW σ i))) (upd (sWe (setWe σ (upd (sWe σ) i (backW σ i)))) j (nI j)))) H := hP
      have hI_4 : InvS B (setWe (setWe σ (upd (sWe σ) i (backW σ i))) (upd (sWe (setWe σ (upd (sWe σ) i (backW σ i)))) j (nI j))) := invS_we hI46 (Or.inr ⟨j, hj, rfl⟩)
      refine lv_iload_n hx hb dX2_giveBack_66 rfl (lv_at hl 0 rfl) ?_
      exact W.iret (v := nI j) hx hb hr (fun t ht hW => ⟨⟨_, setWe (setWe σ (upd (sWe σ) i (backW σ i))) (upd (sWe (setWe σ (upd (sWe σ) i (backW σ i)))) j (nI j)), rfl, ⟨rfl, (giveM hI (ix_s hI hi) hj hw hbo).trans (by rw [if_pos (show sWe (setWe σ (upd (sWe σ) i (backW σ i))) j = -1 from (pk_un hji).trans (we_lt hI hj c_3))])⟩, by show va_P D vwCl (simW cs M _) t.heap; rw [ht]; exact hP⟩, hS.F ht⟩) hS.2.2 dX2_giveBack_67
  · refine lv_aload_n hx hb dX2_giveBack_29 rfl (lv_at hl 1 rfl) ?_
    refine lv_iload_n hx hb dX2_giveBack_30 rfl (lv_at hl 2 rfl) ?_
    refine vp_callSi (va_Run.run (va_runV (As := [.int (nI i)]) (rest := []) ⟨hx, hb, hml, hown, hts⟩ (c_X2_wearer l D cs M hI_1 (nI i)) (cwV 1 hts gX2_giveBack_X2_wearer rfl rfl rfl (by decide +kernel) ⟨Nat.le_of_ble_eq_true rfl, Nat.le_of_ble_eq_true rfl⟩) (rb_V hK hN hP (va_recv hK hP (ci := 3) (q0 := 0) rfl rfl)) rfl rfl hl.1 rfl (lv_room (Nat.le_of_ble_eq_true rfl)) dX2_giveBack_31 ⟨Nat.le_of_ble_eq_true rfl, Nat.le_of_ble_eq_true rfl⟩)) (fun r_5 hr_5 => ?_)
    rw [hr_5]
    refine lv_if_ge (tgt := 46) hx hb dX2_giveBack_34 (by decide) (fun c_6 => ?_) (fun c_6 => ?_)
    · rw [show setWe σ (upd (sWe σ) i (-1)) = setWe σ (upd (sWe σ) i (backW σ i)) from sb_no1 c_6 hI hi] at hP
      have hI46 : InvS B (setWe σ (upd (sWe σ) i (backW σ i))) := invS_we hI (back_in hi)
      refine lv_aload_n hx hb dX2_giveBack_46 rfl (lv_at hl 1 rfl) ?_
      refine va_get (D := D) (ci := 3) (v := .ref M.2.1) (C := RX2) (T := TX2) (N := 4) hx hb hts in_X2_giveBack_X2 hown hK hP 0 rfl rfl 3 (by decide) (hts (.fieldLink RX2 9 "ShadowSocietyLaw$Sim" "members" "[[I") (List.mem_of_getElem? (i := 1) (by decide +kernel))) (fun _ h9 => h9) rfl dX2_giveBack_47 ?_
      refine lv_iload_n hx hb dX2_giveBack_50 rfl (lv_at hl 0 rfl) ?_
      refine va_aldA hx hb hK hP 1 2 rfl rfl (vp_in_nI hj (by have := hI46.1; omega)) (elm_at hj hI46.1) dX2_giveBack_51 ?_
      refine lv_iconst (v := 4) hx hb dX2_giveBack_52 (by decide) ?_
      refine va_iald hx hb hK hP (2 + j) 0 (simW_at hj) rfl (by unfold vp_in; decide) dX2_giveBack_53 ?_
      rw [show rowF (setWe σ (upd (sWe σ) i (backW σ i))) j (4 : Int32).toNatClampNeg = sWe (setWe σ (upd (sWe σ) i (backW σ i))) j from rfl]
      refine W.eq (g2 := F0 m 54 ls [.int (sWe σ j)]) (by rw [show sWe (setWe σ (upd (sWe σ) i (backW σ i))) j = sWe σ j from pk_un hji]) ?_
      refine lv_if_ge (tgt := 66) hx hb dX2_giveBack_54 (by decide) (fun c_7 => ?_) (fun c_7 => ?_)
      · refine lv_iload_n hx hb dX2_giveBack_66 rfl (lv_at hl 0 rfl) ?_
        exact W.iret (v := nI j) hx hb hr (fun t ht hW => ⟨⟨_, setWe σ (upd (sWe σ) i (backW σ i)), rfl, ⟨rfl, (giveM hI (ix_s hI hi) hj hw hbo).trans (by rw [if_neg (show ¬ sWe (setWe σ (upd (sWe σ) i (backW σ i))) j = -1 from fun q => ge_ne c_7 ((pk_un hji).symm.trans q))])⟩, by show va_P D vwCl (simW cs M _) t.heap; rw [ht]; exact hP⟩, hS.F ht⟩) hS.2.2 dX2_giveBack_67
      · refine lv_aload_n hx hb dX2_giveBack_57 rfl (lv_at hl 1 rfl) ?_
        refine va_get (D := D) (ci := 3) (v := .ref M.2.1) (C := RX2) (T := TX2) (N := 4) hx hb hts in_X2_giveBack_X2 hown hK hP 0 rfl rfl 3 (by decide) (hts (.fieldLink RX2 9 "ShadowSocietyLaw$Sim" "members" "[[I") (List.mem_of_getElem? (i := 1) (by decide +kernel))) (fun _ h9 => h9) rfl dX2_giveBack_58 ?_
        refine lv_iload_n hx hb dX2_giveBack_61 rfl (lv_at hl 0 rfl) ?_
        refine va_aldA hx hb hK hP 1 2 rfl rfl (vp_in_nI hj (by have := hI46.1; omega)) (elm_at hj hI46.1) dX2_giveBack_62 ?_
        refine lv_iconst (v := 4) hx hb dX2_giveBack_63 (by decide) ?_
        refine lv_iload_n hx hb dX2_giveBack_64 rfl (lv_at hl 0 rfl) ?_
        refine va_iast hx hb hK hP (sim_D hap (fun q h => Or.inl h)) hS (2 + j) 0 (simW_at hj) rfl (by unfold vp_in; decide) dX2_giveBack_65 (fun H locs hP hD hS => ?_)
        rw [show (4 : Int32).toNatClampNeg = 4 from rfl, t_We (σ := (setWe σ (upd (sWe σ) i (backW σ i)))) hj] at hP
        have hP : va_P D vwCl (simW cs M (setWe (setWe σ (upd (sWe σ) i (backW σ i))) (upd (sWe (setWe σ (upd (sWe σ) i (backW σ i)))) j (nI j)))) H := hP
        have hI_8 : InvS B (setWe (setWe σ (upd (sWe σ) i (backW σ i))) (upd (sWe (setWe σ (upd (sWe σ) i (backW σ i)))) j (nI j))) := invS_we hI46 (Or.inr ⟨j, hj, rfl⟩)
        refine lv_iload_n hx hb dX2_giveBack_66 rfl (lv_at hl 0 rfl) ?_
        exact W.iret (v := nI j) hx hb hr (fun t ht hW => ⟨⟨_, setWe (setWe σ (upd (sWe σ) i (backW σ i))) (upd (sWe (setWe σ (upd (sWe σ) i (backW σ i)))) j (nI j)), rfl, ⟨rfl, (giveM hI (ix_s hI hi) hj hw hbo).trans (by rw [if_pos (show sWe (setWe σ (upd (sWe σ) i (backW σ i))) j = -1 from (pk_un hji).trans (we_lt hI hj c_7))])⟩, by show va_P D vwCl (simW cs M _) t.heap; rw [ht]; exact hP⟩, hS.F ht⟩) hS.2.2 dX2_giveBack_67
    · refine lv_aload_n hx hb dX2_giveBack_37 rfl (lv_at hl 1 rfl) ?_
      refine va_get (D := D) (ci := 3) (v := .ref M.2.1) (C := RX2) (T := TX2) (N := 4) hx hb hts in_X2_giveBack_X2 hown hK hP 0 rfl rfl 3 (by decide) (hts (.fieldLink RX2 9 "ShadowSocietyLaw$Sim" "members" "[[I") (List.mem_of_getElem? (i := 1) (by decide +kernel))) (fun _ h9 => h9) rfl dX2_giveBack_38 ?_
      refine lv_iload_n hx hb dX2_giveBack_41 rfl (lv_at hl 2 rfl) ?_
      refine va_aldA hx hb hK hP 1 2 rfl rfl (vp_in_nI hi (by have := hI_1.1; omega)) (elm_at hi hI_1.1) dX2_giveBack_42 ?_
      refine lv_iconst (v := 4) hx hb dX2_giveBack_43 (by decide) ?_
      refine lv_iload_n hx hb dX2_giveBack_44 rfl (lv_at hl 2 rfl) ?_
      refine va_iast hx hb hK hP (sim_D hap (fun q h => Or.inl h)) hS (2 + i) 0 (simW_at hi) rfl (by unfold vp_in; decide) dX2_giveBack_45 (fun H locs hP hD hS => ?_)
      rw [show (4 : Int32).toNatClampNeg = 4 from rfl, t_We (σ := (setWe σ (upd (sWe σ) i (-1)))) hi] at hP
      have hP : va_P D vwCl (simW cs M (setWe (setWe σ (upd (sWe σ) i (-1))) (upd (sWe (setWe σ (upd (sWe σ) i (-1)))) i (nI i)))) H := hP
      have hI_9 : InvS B (setWe (setWe σ (upd (sWe σ) i (-1))) (upd (sWe (setWe σ (upd (sWe σ) i (-1)))) i (nI i))) := invS_we hI_1 (Or.inr ⟨i, hi, rfl⟩)
      rw [show setWe (setWe σ (upd (sWe σ) i (-1))) (upd (sWe (setWe σ (upd (sWe σ) i (-1)))) i (nI i)) = setWe σ (upd (sWe σ) i (backW σ i)) from sb_own c_2 c_6 hI hi] at hP
      have hI46 : InvS B (setWe σ (upd (sWe σ) i (backW σ i))) := invS_we hI (back_in hi)
      refine lv_aload_n hx hb dX2_giveBack_46 rfl (lv_at hl 1 rfl) ?_
      refine va_get (D := D) (ci := 3) (v := .ref M.2.1) (C := RX2) (T := TX2) (N := 4) hx hb hts in_X2_giveBack_X2 hown hK hP 0 rfl rfl 3 (by decide) (hts (.fieldLink RX2 9 "ShadowSocietyLaw$Sim" "members" "[[I") (List.mem_of_getElem? (i := 1) (by decide +kernel))) (fun _ h9 => h9) rfl dX2_giveBack_47 ?_
      refine lv_iload_n hx hb dX2_giveBack_50 rfl (lv_at hl 0 rfl) ?_
      refine va_aldA hx hb hK hP 1 2 rfl rfl (vp_in_nI hj (by have := hI46.1; omega)) (elm_at hj hI46.1) dX2_giveBack_51 ?_
      refine lv_iconst (v := 4) hx hb dX2_giveBack_52 (by decide) ?_
      refine va_iald hx hb hK hP (2 + j) 0 (simW_at hj) rfl (by unfold vp_in; decide) dX2_giveBack_53 ?_
      rw [show rowF (setWe σ (upd (sWe σ) i (backW σ i))) j (4 : Int32).toNatClampNeg = sWe (setWe σ (upd (sWe σ) i (backW σ i))) j from rfl]
      refine W.eq (g2 := F0 m 54 ls [.int (sWe σ j)]) (by rw [show sWe (setWe σ (upd (sWe σ) i (backW σ i))) j = sWe σ j from pk_un hji]) ?_
      refine lv_if_ge (tgt := 66) hx hb dX2_giveBack_54 (by decide) (fun c_10 => ?_) (fun c_10 => ?_)
      · refine lv_iload_n hx hb dX2_giveBack_66 rfl (lv_at hl 0 rfl) ?_
        exact W.iret (v := nI j) hx hb hr (fun t ht hW => ⟨⟨_, setWe σ (upd (sWe σ) i (backW σ i)), rfl, ⟨rfl, (giveM hI (ix_s hI hi) hj hw hbo).trans (by rw [if_neg (show ¬ sWe (setWe σ (upd (sWe σ) i (backW σ i))) j = -1 from fun q => ge_ne c_10 ((pk_un hji).symm.trans q))])⟩, by show va_P D vwCl (simW cs M _) t.heap; rw [ht]; exact hP⟩, hS.F ht⟩) hS.2.2 dX2_giveBack_67
      · refine lv_aload_n hx hb dX2_giveBack_57 rfl (lv_at hl 1 rfl) ?_
        refine va_get (D := D) (ci := 3) (v := .ref M.2.1) (C := RX2) (T := TX2) (N := 4) hx hb hts in_X2_giveBack_X2 hown hK hP 0 rfl rfl 3 (by decide) (hts (.fieldLink RX2 9 "ShadowSocietyLaw$Sim" "members" "[[I") (List.mem_of_getElem? (i := 1) (by decide +kernel))) (fun _ h9 => h9) rfl dX2_giveBack_58 ?_
        refine lv_iload_n hx hb dX2_giveBack_61 rfl (lv_at hl 0 rfl) ?_
        refine va_aldA hx hb hK hP 1 2 rfl rfl (vp_in_nI hj (by have := hI46.1; omega)) (elm_at hj hI46.1) dX2_giveBack_62 ?_
        refine lv_iconst (v := 4) hx hb dX2_giveBack_63 (by decide) ?_
        refine lv_iload_n hx hb dX2_giveBack_64 rfl (lv_at hl 0 rfl) ?_
        refine va_iast hx hb hK hP (sim_D hap (fun q h => Or.inl h)) hS (2 + j) 0 (simW_at hj) rfl (by unfold vp_in; decide) dX2_giveBack_65 (fun H locs hP hD hS => ?_)
        rw [show (4 : Int32).toNatClampNeg = 4 from rfl, t_We (σ := (setWe σ (upd (sWe σ) i (backW σ i)))) hj] at hP
        have hP : va_P D vwCl (simW cs M (setWe (setWe σ (upd (sWe σ) i (backW σ i))) (upd (sWe (setWe σ (upd (sWe σ) i (backW σ i)))) j (nI j)))) H := hP
        have hI_11 : InvS B (setWe (setWe σ (upd (sWe σ) i (backW σ i))) (upd (sWe (setWe σ (upd (sWe σ) i (backW σ i)))) j (nI j))) := invS_we hI46 (Or.inr ⟨j, hj, rfl⟩)
        refine lv_iload_n hx hb dX2_giveBack_66 rfl (lv_at hl 0 rfl) ?_
        exact W.iret (v := nI j) hx hb hr (fun t ht hW => ⟨⟨_, setWe (setWe σ (upd (sWe σ) i (backW σ i))) (upd (sWe (setWe σ (upd (sWe σ) i (backW σ i)))) j (nI j)), rfl, ⟨rfl, (giveM hI (ix_s hI hi) hj hw hbo).trans (by rw [if_pos (show sWe (setWe σ (upd (sWe σ) i (backW σ i))) j = -1 from (pk_un hji).trans (we_lt hI hj c_10))])⟩, by show va_P D vwCl (simW cs M _) t.heap; rw [ht]; exact hP⟩, hS.F ht⟩) hS.2.2 dX2_giveBack_67
theorem in_X2_pass_X2 : ∀ w ∈ wsX20, w ∈ wsX2_pass := by decide +kernel
set_option maxHeartbeats 4000000 in
set_option maxRecDepth 100000 in
/-- hours pass -/
theorem c_X2_pass (l : Launch) (D : va_G) (cs : Cs) (M : Mf) {B : Nat} {σ : PS} (hQ : InvQ B σ) (hap : AptS M (sK σ)) (H0 : Heap) (h : Nat) (hh : h ≤ 72) (hB : B + h ≤ 40000) : Met l yX2_pass wsX2_pass ({ frames := 3, cells := 0, slots := 0, locals := 64 }) (va_Pc [.ref M.1, .int (nI h)] (RBp D cs (fun X => X = H0 ∧ va_P D vwCl (simW cs M σ) X))) (va_Qi (fun (r : Int32) (u : PS) => r = sRv (passN σ h) - sRv σ ∧ u = passN σ h) (fun u t => va_P D vwCl (simW cs M u) t.heap) (smA M (sK σ) H0)) 0 0 (smA M (sK σ) H0) := by
  refine Met.ofW (cc := cX2_pass) (maxL := 8) (ret := (some .int)) (by decide) rfl ?_
  intro p e s m args below meth c s₁ B0 hml hv
  obtain ⟨rfl, ⟨hH, hP⟩, hK, hN⟩ := hv
  subst hH
  have hx := B0.exec
  have hb := B0.bytes
  have hr := B0.returns
  have hts := atoms_spec (ws := wsX2_pass) B0.pre
  have hown : s.vm.findClass RX2 = some m.cls := findClass_of_methodNamed B0.named
  have hlocks := B0.notSynchronized
  have hS : va_S (smA M (sK σ) s.heap) s.heap s.heap [] := va_S.rf
  have hI := hQ.1.1
  have hl := lv_entry ([.ref M.1, .int (nI h)]) (n := 8) (Nat.le_of_ble_eq_true rfl)
  rw [lg_entry_eq]
  generalize (lg_sl ([.ref M.1, .int (nI h)]) ++ List.replicate (8 - (lg_sl ([.ref M.1, .int (nI h)])).length) Slot.unset).toArray = ls at hl ⊢
  have hl : lv_has ls 8 [(0, .ref M.1), (1, .int (nI h))] := hl
  refine lv_aload_n hx hb dX2_pass_0 rfl (lv_at hl 0 rfl) ?_
  refine va_get (D := D) (ci := 3) (v := .int (sRv σ)) (C := RX2) (T := TX2) (N := 4) hx hb hts in_X2_pass_X2 hown hK hP 0 rfl rfl 2 (by decide) (hts (.fieldLink RX2 23 "ShadowSocietyLaw$Sim" "revoked" "I") (List.mem_of_getElem? (i := 1) (by decide +kernel))) (fun _ h9 => h9) rfl dX2_pass_1 ?_
  refine lv_istore_n (lv' := [(2, .int (sRv σ)), (0, .ref M.1), (1, .int (nI h))]) hx hb dX2_pass_4 rfl hl (by decide) rfl (fun ls hl => ?_)
  refine lv_iconst (v := 0) hx hb dX2_pass_5 (by decide) ?_
  refine lv_istore_n (lv' := [(3, .int 0), (2, .int (sRv σ)), (0, .ref M.1), (1, .int (nI h))]) hx hb dX2_pass_6 rfl hl (by decide) rfl (fun ls hl => ?_)
  refine lv_forH (h) (fun ls => F0 m 7 ls []) (fun n7 => [(0, .ref M.1), (1, .int (nI h)), (2, .int (sRv σ)), (3, .int (nI n7))]) (fun n7 X => va_P D vwCl (simW cs M (passN σ n7)) X) (show lv_has ls 8 [(0, .ref M.1), (1, .int (nI h)), (2, .int (sRv σ)), (3, .int (nI 0))] from lv_sub hl [2, 3, 1, 0] rfl) (show va_P D vwCl (simW cs M (passN σ 0)) _ from by rw [show passN σ 0 = σ from rfl]; exact hP) hS (fun n7 ls H locs hn7 hP hS hl K7 => ?_) (fun ls H locs hP hS hl => ?_)
  · have hl : lv_has ls 8 [(0, .ref M.1), (1, .int (nI h)), (2, .int (sRv σ)), (3, .int (nI n7))] := hl
    have hI7a : InvS (B + n7) (passN σ n7) := (invQ_passN hQ n7 (by omega)).1.1
    have hap7 : AptS M (sK (passN σ n7)) := by rw [k_pass]; exact hap
    have hQ7 := invQ_passN hQ n7 (by omega)
    have hC7 := hQ7.2.1
    have hT8 := invT_hr hQ7.1 (by omega)
    have hI8 := hT8.1
    refine lv_iload_n hx hb dX2_pass_7 rfl (lv_at hl 3 rfl) ?_
    refine lv_iload_n hx hb dX2_pass_8 rfl (lv_at hl 1 rfl) ?_
    refine lv_icmp_ge (tgt := 258) hx hb dX2_pass_9 (by decide) (fun c9 => absurd c9 (nI_ge hn7 (by omega))) (fun _ => ?_)
    refine lv_aload_n hx hb dX2_pass_12 rfl (lv_at hl 0 rfl) ?_
    refine lv_dup hx hb dX2_pass_13 rfl ?_
    refine va_get (D := D) (ci := 3) (v := .int (sHr (passN σ n7))) (C := RX2) (T := TX2) (N := 4) hx hb hts in_X2_pass_X2 hown hK hP 0 rfl rfl 0 (by decide) (hts (.fieldLink RX2 16 "ShadowSocietyLaw$Sim" "hour" "I") (List.mem_of_getElem? (i := 2) (by decide +kernel))) (fun _ h9 => h9) rfl dX2_pass_14 ?_
    refine lv_iconst (v := 1) hx hb dX2_pass_17 (by decide) ?_
    refine lv_iadd hx hb dX2_pass_18 ?_
    refine va_put (D := D) (ci := 3) (v := .int ((sHr (passN σ n7)) + 1)) (ty := .int) (C := RX2) (T := TX2) (N := 4) hx hb hts in_X2_pass_X2 tyX2 tyX2_ok nmX2 hown hK hP (sim_D (A := smA M (sK σ) s.heap) hap7 (fun q h => Or.inl (own_k (k_pass σ n7) h))) hS 0 rfl rfl 0 (by decide) (hts (.fieldLink RX2 16 "ShadowSocietyLaw$Sim" "hour" "I") (List.mem_of_getElem? (i := 2) (by decide +kernel))) (fun _ h9 => h9) rfl (by decide +kernel) rfl rfl (Nat.le_of_ble_eq_true rfl) dX2_pass_19 (fun H locs hP hD hS => ?_)
    have hP : va_P D vwCl (simW cs M (setHr (passN σ n7) ((sHr (passN σ n7)) + 1))) H := hP
    have hI_1 : InvS (B + n7 + 1) (setHr (passN σ n7) ((sHr (passN σ n7)) + 1)) := hI8
    refine lv_aload_n hx hb dX2_pass_22 rfl (lv_at hl 0 rfl) ?_
    refine va_get (D := D) (ci := 3) (v := .int (sHr (setHr (passN σ n7) ((sHr (passN σ n7)) + 1)))) (C := RX2) (T := TX2) (N := 4) hx hb hts in_X2_pass_X2 hown hK hP 0 rfl rfl 0 (by decide) (hts (.fieldLink RX2 16 "ShadowSocietyLaw$Sim" "hour" "I") (List.mem_of_getElem? (i := 2) (by decide +kernel))) (fun _ h9 => h9) rfl dX2_pass_23 ?_
    refine lv_bipush (v := 24) hx hb dX2_pass_26 (by decide) ?_
    refine lv_irem hx hb dX2_pass_28 (by decide) ?_
    refine lv_bipush (v := 12) hx hb dX2_pass_29 (by decide) ?_
    refine lv_icmp_eq (tgt := 37) hx hb dX2_pass_31 (by decide) (fun c_2 => ?_) (fun c_2 => ?_)
    · refine lv_aload_n hx hb dX2_pass_37 rfl (lv_at hl 0 rfl) ?_
      refine va_get (D := D) (ci := 3) (v := .ref M.2.1) (C := RX2) (T := TX2) (N := 4) hx hb hts in_X2_pass_X2 hown hK hP 0 rfl rfl 3 (by decide) (hts (.fieldLink RX2 9 "ShadowSocietyLaw$Sim" "members" "[[I") (List.mem_of_getElem? (i := 3) (by decide +kernel))) (fun _ h9 => h9) rfl dX2_pass_38 ?_
      refine lv_astore (lv' := [(4, .ref M.2.1), (0, .ref M.1), (1, .int (nI h)), (2, .int (sRv σ)), (3, .int (nI n7))]) hx hb dX2_pass_41 hl (by decide) rfl (fun ls hl => ?_)
      refine lv_aload hx hb dX2_pass_43 (lv_at hl 0 rfl) ?_
      refine va_alen hx hb hK hP 1 2 rfl rfl (v := nI (sK (passN σ n7))) rfl dX2_pass_45 ?_
      refine W.eq (g2 := F0 m 46 ls [.int (nI (sK σ))]) (by rw [show sK (passN σ n7) = sK σ from k_pass σ n7]) ?_
      refine lv_istore (lv' := [(5, .int (nI (sK σ))), (4, .ref M.2.1), (0, .ref M.1), (1, .int (nI h)), (2, .int (sRv σ)), (3, .int (nI n7))]) hx hb dX2_pass_46 hl (by decide) rfl (fun ls hl => ?_)
      refine lv_iconst (v := 0) hx hb dX2_pass_48 (by decide) ?_
      refine lv_istore (lv' := [(6, .int 0), (5, .int (nI (sK σ))), (4, .ref M.2.1), (0, .ref M.1), (1, .int (nI h)), (2, .int (sRv σ)), (3, .int (nI n7))]) hx hb dX2_pass_49 hl (by decide) rfl (fun ls hl => ?_)
      refine lv_forH (sK σ) (fun ls => F0 m 51 ls []) (fun n51 => [(0, .ref M.1), (1, .int (nI h)), (2, .int (sRv σ)), (3, .int (nI n7)), (4, .ref M.2.1), (5, .int (nI (sK σ))), (6, .int (nI n51))]) (fun n51 X => va_P D vwCl (simW cs M (sp1 (setHr (passN σ n7) (sHr (passN σ n7) + 1)) n51)) X) (show lv_has ls 8 [(0, .ref M.1), (1, .int (nI h)), (2, .int (sRv σ)), (3, .int (nI n7)), (4, .ref M.2.1), (5, .int (nI (sK σ))), (6, .int (nI 0))] from lv_sub hl [3, 4, 5, 6, 2, 1, 0] rfl) (show va_P D vwCl (simW cs M (sp1 (setHr (passN σ n7) (sHr (passN σ n7) + 1)) 0)) _ from by rw [sp1_0]; exact hP) hS (fun n51 ls H locs hn51 hP hS hl K51 => ?_) (fun ls H locs hP hS hl => ?_)
      · have hl : lv_has ls 8 [(0, .ref M.1), (1, .int (nI h)), (2, .int (sRv σ)), (3, .int (nI n7)), (4, .ref M.2.1), (5, .int (nI (sK σ))), (6, .int (nI n51))] := hl
        have hI51a : InvS (B + n7 + 1) (sp1 (setHr (passN σ n7) (sHr (passN σ n7) + 1)) n51) := invS_sp1 hI8 n51
        obtain ⟨τ51, hτ51⟩ : ∃ τ, τ = sp1 (setHr (passN σ n7) (sHr (passN σ n7) + 1)) n51 := ⟨_, rfl⟩
        have hk51 : sK τ51 = sK σ := by rw [hτ51]; exact k_pass σ n7
        rw [← hτ51] at hP hI51a
        have hap51 : AptS M (sK τ51) := by rw [hk51]; exact hap
        have hm51 : n51 < sK τ51 := by rw [hk51]; exact hn51
        refine lv_iload hx hb dX2_pass_51 (lv_at hl 6 rfl) ?_
        refine lv_iload hx hb dX2_pass_53 (lv_at hl 5 rfl) ?_
        refine lv_icmp_ge (tgt := 110) hx hb dX2_pass_55 (by decide) (fun c9 => absurd c9 (nI_ge hn51 (by have := hI.1; omega))) (fun _ => ?_)
        refine lv_aload hx hb dX2_pass_58 (lv_at hl 4 rfl) ?_
        refine lv_iload hx hb dX2_pass_60 (lv_at hl 6 rfl) ?_
        refine va_aldA hx hb hK hP 1 2 rfl rfl (vp_in_nI hm51 (by have := hI51a.1; omega)) (elm_at hm51 hI51a.1) dX2_pass_62 ?_
        refine lv_astore (lv' := [(7, .ref (M.2.2 n51)), (0, .ref M.1), (1, .int (nI h)), (2, .int (sRv σ)), (3, .int (nI n7)), (4, .ref M.2.1), (5, .int (nI (sK σ))), (6, .int (nI n51))]) hx hb dX2_pass_63 hl (by decide) rfl (fun ls hl => ?_)
        refine lv_aload_n hx hb dX2_pass_65 rfl (lv_at hl 1 rfl) ?_
        refine lv_dup hx hb dX2_pass_66 rfl ?_
        refine va_get (D := D) (ci := 3) (v := .int (sSz τ51)) (C := RX2) (T := TX2) (N := 4) hx hb hts in_X2_pass_X2 hown hK hP 0 rfl rfl 1 (by decide) (hts (.fieldLink RX2 20 "ShadowSocietyLaw$Sim" "seized" "I") (List.mem_of_getElem? (i := 4) (by decide +kernel))) (fun _ h9 => h9) rfl dX2_pass_67 ?_
        refine lv_aload hx hb dX2_pass_70 (lv_at hl 0 rfl) ?_
        refine lv_iconst (v := 3) hx hb dX2_pass_72 (by decide) ?_
        refine va_iald hx hb hK hP (2 + n51) 0 (simW_at hm51) rfl (by unfold vp_in; decide) dX2_pass_73 ?_
        rw [show rowF τ51 n51 (3 : Int32).toNatClampNeg = sLa τ51 n51 from rfl]
        refine lv_if_le (tgt := 81) hx hb dX2_pass_74 (by decide) (fun c_3 => ?_) (fun c_3 => ?_)
        · refine lv_iconst (v := 0) hx hb dX2_pass_81 (by decide) ?_
          refine W.eq (g2 := F0 m 82 ls [.int (b01 (0 < sLa τ51 n51)), .int (sSz τ51), .ref M.1]) (by rw [show b01 (0 < sLa τ51 n51) = 0 from b01_f (fun q => Int32.not_le.mpr q c_3)]) ?_
          refine lv_iadd hx hb dX2_pass_82 ?_
          refine va_put (D := D) (ci := 3) (v := .int ((sSz τ51) + (b01 (0 < sLa τ51 n51)))) (ty := .int) (C := RX2) (T := TX2) (N := 4) hx hb hts in_X2_pass_X2 tyX2 tyX2_ok nmX2 hown hK hP (sim_D (A := smA M (sK σ) s.heap) hap51 (fun q h => Or.inl (own_k hk51 h))) hS 0 rfl rfl 1 (by decide) (hts (.fieldLink RX2 20 "ShadowSocietyLaw$Sim" "seized" "I") (List.mem_of_getElem? (i := 4) (by decide +kernel))) (fun _ h9 => h9) rfl (by decide +kernel) rfl rfl (Nat.le_of_ble_eq_true rfl) dX2_pass_83 (fun H locs hP hD hS => ?_)
          have hP : va_P D vwCl (simW cs M (setSz τ51 ((sSz τ51) + (b01 (0 < sLa τ51 n51))))) H := hP
          have hI_4 : InvS (B + n7 + 1) (setSz τ51 ((sSz τ51) + (b01 (0 < sLa τ51 n51)))) := hI51a
          refine lv_aload hx hb dX2_pass_86 (lv_at hl 0 rfl) ?_
          refine lv_iconst (v := 2) hx hb dX2_pass_88 (by decide) ?_
          refine lv_dup2_11 hx hb dX2_pass_89 rfl rfl ?_
          refine va_iald hx hb hK hP (2 + n51) 0 (simW_at hm51) rfl (by unfold vp_in; decide) dX2_pass_90 ?_
          rw [show rowF (setSz τ51 ((sSz τ51) + (b01 (0 < sLa τ51 n51)))) n51 (2 : Int32).toNatClampNeg = sPu τ51 n51 from rfl]
          refine lv_iconst (v := 2) hx hb dX2_pass_91 (by decide) ?_
          refine lv_aload hx hb dX2_pass_92 (lv_at hl 0 rfl) ?_
          refine lv_iconst (v := 3) hx hb dX2_pass_94 (by decide) ?_
          refine va_iald hx hb hK hP (2 + n51) 0 (simW_at hm51) rfl (by unfold vp_in; decide) dX2_pass_95 ?_
          rw [show rowF (setSz τ51 ((sSz τ51) + (b01 (0 < sLa τ51 n51)))) n51 (3 : Int32).toNatClampNeg = sLa τ51 n51 from rfl]
          refine lv_imul hx hb dX2_pass_96 ?_
          refine lv_isub hx hb dX2_pass_97 ?_
          refine va_iast hx hb hK hP (sim_D (A := smA M (sK σ) s.heap) hap51 (fun q h => Or.inl (own_k hk51 h))) hS (2 + n51) 0 (simW_at hm51) rfl (by unfold vp_in; decide) dX2_pass_98 (fun H locs hP hD hS => ?_)
          rw [show (2 : Int32).toNatClampNeg = 2 from rfl, t_Pu (σ := (setSz τ51 ((sSz τ51) + (b01 (0 < sLa τ51 n51))))) hm51] at hP
          have hP : va_P D vwCl (simW cs M (setPu (setSz τ51 ((sSz τ51) + (b01 (0 < sLa τ51 n51)))) (upd (sPu τ51) n51 ((sPu τ51 n51) - (2 * (sLa τ51 n51)))))) H := hP
          have hI_5 : InvS (B + n7 + 1) (setPu (setSz τ51 ((sSz τ51) + (b01 (0 < sLa τ51 n51)))) (upd (sPu τ51) n51 ((sPu τ51 n51) - (2 * (sLa τ51 n51))))) := hI_4
          refine lv_aload hx hb dX2_pass_99 (lv_at hl 0 rfl) ?_
          refine lv_iconst (v := 3) hx hb dX2_pass_101 (by decide) ?_
          refine lv_iconst (v := 0) hx hb dX2_pass_102 (by decide) ?_
          refine va_iast hx hb hK hP (sim_D (A := smA M (sK σ) s.heap) hap51 (fun q h => Or.inl (own_k hk51 h))) hS (2 + n51) 0 (simW_at hm51) rfl (by unfold vp_in; decide) dX2_pass_103 (fun H locs hP hD hS => ?_)
          rw [show (3 : Int32).toNatClampNeg = 3 from rfl, t_La (σ := (setPu (setSz τ51 ((sSz τ51) + (b01 (0 < sLa τ51 n51)))) (upd (sPu τ51) n51 ((sPu τ51 n51) - (2 * (sLa τ51 n51)))))) hm51] at hP
          have hP : va_P D vwCl (simW cs M (setLa (setPu (setSz τ51 ((sSz τ51) + (b01 (0 < sLa τ51 n51)))) (upd (sPu τ51) n51 ((sPu τ51 n51) - (2 * (sLa τ51 n51))))) (upd (sLa τ51) n51 0))) H := hP
          have hI_6 : InvS (B + n7 + 1) (setLa (setPu (setSz τ51 ((sSz τ51) + (b01 (0 < sLa τ51 n51)))) (upd (sPu τ51) n51 ((sPu τ51 n51) - (2 * (sLa τ51 n51))))) (upd (sLa τ51) n51 0)) := hI_5
          refine lv_iinc (v := nI (n51 + 1)) (lv' := [(6, .int (nI (n51 + 1))), (7, .ref (M.2.2 n51)), (0, .ref M.1), (1, .int (nI h)), (2, .int (sRv σ)), (3, .int (nI n7)), (4, .ref M.2.1), (5, .int (nI (sK σ)))]) hx hb dX2_pass_104 hl (k := 7) rfl (nI_add _ 1) (by decide) rfl (fun ls hl => ?_)
          refine lv_goto (tgt := 51) hx hb dX2_pass_107 (by decide) ?_
          refine K51 ls _ _ ?_ hS ?_
          · subst hτ51
            rw [show sp1 (setHr (passN σ n7) (sHr (passN σ n7) + 1)) (n51 + 1) = setLa (setPu (setSz (sp1 (setHr (passN σ n7) (sHr (passN σ n7) + 1)) n51) ((sSz (sp1 (setHr (passN σ n7) (sHr (passN σ n7) + 1)) n51)) + (b01 (0 < sLa (sp1 (setHr (passN σ n7) (sHr (passN σ n7) + 1)) n51) n51)))) (upd (sPu (sp1 (setHr (passN σ n7) (sHr (passN σ n7) + 1)) n51)) n51 ((sPu (sp1 (setHr (passN σ n7) (sHr (passN σ n7) + 1)) n51) n51) - (2 * (sLa (sp1 (setHr (passN σ n7) (sHr (passN σ n7) + 1)) n51) n51))))) (upd (sLa (sp1 (setHr (passN σ n7) (sHr (passN σ n7) + 1)) n51)) n51 0) from (sp1_n (setHr (passN σ n7) (sHr (passN σ n7) + 1)) n51)]
            exact hP
          · show lv_has ls 8 [(0, .ref M.1), (1, .int (nI h)), (2, .int (sRv σ)), (3, .int (nI n7)), (4, .ref M.2.1), (5, .int (nI (sK σ))), (6, .int (nI (n51 + 1)))]
            exact lv_sub hl [2, 3, 4, 5, 6, 7, 0] rfl
        · refine lv_iconst (v := 1) hx hb dX2_pass_77 (by decide) ?_
          refine lv_goto (tgt := 82) hx hb dX2_pass_78 (by decide) ?_
          refine W.eq (g2 := F0 m 82 ls [.int (b01 (0 < sLa τ51 n51)), .int (sSz τ51), .ref M.1]) (by rw [show b01 (0 < sLa τ51 n51) = 1 from b01_t (Int32.not_le.mp c_3)]) ?_
          refine lv_iadd hx hb dX2_pass_82 ?_
          refine va_put (D := D) (ci := 3) (v := .int ((sSz τ51) + (b01 (0 < sLa τ51 n51)))) (ty := .int) (C := RX2) (T := TX2) (N := 4) hx hb hts in_X2_pass_X2 tyX2 tyX2_ok nmX2 hown hK hP (sim_D (A := smA M (sK σ) s.heap) hap51 (fun q h => Or.inl (own_k hk51 h))) hS 0 rfl rfl 1 (by decide) (hts (.fieldLink RX2 20 "ShadowSocietyLaw$Sim" "seized" "I") (List.mem_of_getElem? (i := 4) (by decide +kernel))) (fun _ h9 => h9) rfl (by decide +kernel) rfl rfl (Nat.le_of_ble_eq_true rfl) dX2_pass_83 (fun H locs hP hD hS => ?_)
          have hP : va_P D vwCl (simW cs M (setSz τ51 ((sSz τ51) + (b01 (0 < sLa τ51 n51))))) H := hP
          have hI_7 : InvS (B + n7 + 1) (setSz τ51 ((sSz τ51) + (b01 (0 < sLa τ51 n51)))) := hI51a
          refine lv_aload hx hb dX2_pass_86 (lv_at hl 0 rfl) ?_
          refine lv_iconst (v := 2) hx hb dX2_pass_88 (by decide) ?_
          refine lv_dup2_11 hx hb dX2_pass_89 rfl rfl ?_
          refine va_iald hx hb hK hP (2 + n51) 0 (simW_at hm51) rfl (by unfold vp_in; decide) dX2_pass_90 ?_
          rw [show rowF (setSz τ51 ((sSz τ51) + (b01 (0 < sLa τ51 n51)))) n51 (2 : Int32).toNatClampNeg = sPu τ51 n51 from rfl]
          refine lv_iconst (v := 2) hx hb dX2_pass_91 (by decide) ?_
          refine lv_aload hx hb dX2_pass_92 (lv_at hl 0 rfl) ?_
          refine lv_iconst (v := 3) hx hb dX2_pass_94 (by decide) ?_
          refine va_iald hx hb hK hP (2 + n51) 0 (simW_at hm51) rfl (by unfold vp_in; decide) dX2_pass_95 ?_
          rw [show rowF (setSz τ51 ((sSz τ51) + (b01 (0 < sLa τ51 n51)))) n51 (3 : Int32).toNatClampNeg = sLa τ51 n51 from rfl]
          refine lv_imul hx hb dX2_pass_96 ?_
          refine lv_isub hx hb dX2_pass_97 ?_
          refine va_iast hx hb hK hP (sim_D (A := smA M (sK σ) s.heap) hap51 (fun q h => Or.inl (own_k hk51 h))) hS (2 + n51) 0 (simW_at hm51) rfl (by unfold vp_in; decide) dX2_pass_98 (fun H locs hP hD hS => ?_)
          rw [show (2 : Int32).toNatClampNeg = 2 from rfl, t_Pu (σ := (setSz τ51 ((sSz τ51) + (b01 (0 < sLa τ51 n51))))) hm51] at hP
          have hP : va_P D vwCl (simW cs M (setPu (setSz τ51 ((sSz τ51) + (b01 (0 < sLa τ51 n51)))) (upd (sPu τ51) n51 ((sPu τ51 n51) - (2 * (sLa τ51 n51)))))) H := hP
          have hI_8 : InvS (B + n7 + 1) (setPu (setSz τ51 ((sSz τ51) + (b01 (0 < sLa τ51 n51)))) (upd (sPu τ51) n51 ((sPu τ51 n51) - (2 * (sLa τ51 n51))))) := hI_7
          refine lv_aload hx hb dX2_pass_99 (lv_at hl 0 rfl) ?_
          refine lv_iconst (v := 3) hx hb dX2_pass_101 (by decide) ?_
          refine lv_iconst (v := 0) hx hb dX2_pass_102 (by decide) ?_
          refine va_iast hx hb hK hP (sim_D (A := smA M (sK σ) s.heap) hap51 (fun q h => Or.inl (own_k hk51 h))) hS (2 + n51) 0 (simW_at hm51) rfl (by unfold vp_in; decide) dX2_pass_103 (fun H locs hP hD hS => ?_)
          rw [show (3 : Int32).toNatClampNeg = 3 from rfl, t_La (σ := (setPu (setSz τ51 ((sSz τ51) + (b01 (0 < sLa τ51 n51)))) (upd (sPu τ51) n51 ((sPu τ51 n51) - (2 * (sLa τ51 n51)))))) hm51] at hP
          have hP : va_P D vwCl (simW cs M (setLa (setPu (setSz τ51 ((sSz τ51) + (b01 (0 < sLa τ51 n51)))) (upd (sPu τ51) n51 ((sPu τ51 n51) - (2 * (sLa τ51 n51))))) (upd (sLa τ51) n51 0))) H := hP
          have hI_9 : InvS (B + n7 + 1) (setLa (setPu (setSz τ51 ((sSz τ51) + (b01 (0 < sLa τ51 n51)))) (upd (sPu τ51) n51 ((sPu τ51 n51) - (2 * (sLa τ51 n51))))) (upd (sLa τ51) n51 0)) := hI_8
          refine lv_iinc (v := nI (n51 + 1)) (lv' := [(6, .int (nI (n51 + 1))), (7, .ref (M.2.2 n51)), (0, .ref M.1), (1, .int (nI h)), (2, .int (sRv σ)), (3, .int (nI n7)), (4, .ref M.2.1), (5, .int (nI (sK σ)))]) hx hb dX2_pass_104 hl (k := 7) rfl (nI_add _ 1) (by decide) rfl (fun ls hl => ?_)
          refine lv_goto (tgt := 51) hx hb dX2_pass_107 (by decide) ?_
          refine K51 ls _ _ ?_ hS ?_
          · subst hτ51
            rw [show sp1 (setHr (passN σ n7) (sHr (passN σ n7) + 1)) (n51 + 1) = setLa (setPu (setSz (sp1 (setHr (passN σ n7) (sHr (passN σ n7) + 1)) n51) ((sSz (sp1 (setHr (passN σ n7) (sHr (passN σ n7) + 1)) n51)) + (b01 (0 < sLa (sp1 (setHr (passN σ n7) (sHr (passN σ n7) + 1)) n51) n51)))) (upd (sPu (sp1 (setHr (passN σ n7) (sHr (passN σ n7) + 1)) n51)) n51 ((sPu (sp1 (setHr (passN σ n7) (sHr (passN σ n7) + 1)) n51) n51) - (2 * (sLa (sp1 (setHr (passN σ n7) (sHr (passN σ n7) + 1)) n51) n51))))) (upd (sLa (sp1 (setHr (passN σ n7) (sHr (passN σ n7) + 1)) n51)) n51 0) from (sp1_n (setHr (passN σ n7) (sHr (passN σ n7) + 1)) n51)]
            exact hP
          · show lv_has ls 8 [(0, .ref M.1), (1, .int (nI h)), (2, .int (sRv σ)), (3, .int (nI n7)), (4, .ref M.2.1), (5, .int (nI (sK σ))), (6, .int (nI (n51 + 1)))]
            exact lv_sub hl [2, 3, 4, 5, 6, 7, 0] rfl
      · have hl : lv_has ls 8 [(0, .ref M.1), (1, .int (nI h)), (2, .int (sRv σ)), (3, .int (nI n7)), (4, .ref M.2.1), (5, .int (nI (sK σ))), (6, .int (nI (sK σ)))] := hl
        have hI51b : InvS (B + n7 + 1) (sp1 (setHr (passN σ n7) (sHr (passN σ n7) + 1)) (sK σ)) := invS_sp1 hI8 (sK σ)
        refine lv_iload hx hb dX2_pass_51 (lv_at hl 6 rfl) ?_
        refine lv_iload hx hb dX2_pass_53 (lv_at hl 5 rfl) ?_
        refine lv_icmp_ge (tgt := 110) hx hb dX2_pass_55 (by decide) (fun _ => ?_) (fun c9 => absurd (nI_le (Nat.le_refl _) (by have := hI.1; omega)) c9)
        refine lv_iconst (v := 0) hx hb dX2_pass_110 (by decide) ?_
        refine lv_istore (lv' := [(4, .int 0), (0, .ref M.1), (1, .int (nI h)), (2, .int (sRv σ)), (3, .int (nI n7)), (5, .int (nI (sK σ))), (6, .int (nI (sK σ)))]) hx hb dX2_pass_111 hl (by decide) rfl (fun ls hl => ?_)
        refine lv_forH (sK σ) (fun ls => F0 m 113 ls []) (fun n113 => [(0, .ref M.1), (1, .int (nI h)), (2, .int (sRv σ)), (3, .int (nI n7)), (4, .int (nI n113))]) (fun n113 X => va_P D vwCl (simW cs M (sp2 (setHr (passN σ n7) (sHr (passN σ n7) + 1)) n113)) X) (show lv_has ls 8 [(0, .ref M.1), (1, .int (nI h)), (2, .int (sRv σ)), (3, .int (nI n7)), (4, .int (nI 0))] from lv_sub hl [1, 2, 3, 4, 0] rfl) (show va_P D vwCl (simW cs M (sp2 (setHr (passN σ n7) (sHr (passN σ n7) + 1)) 0)) _ from by rw [show sp2 (setHr (passN σ n7) (sHr (passN σ n7) + 1)) 0 = sp1 (setHr (passN σ n7) (sHr (passN σ n7) + 1)) (sK σ) from (sp2_0 _).trans (by rw [show sK (setHr (passN σ n7) (sHr (passN σ n7) + 1)) = sK σ from k_pass σ n7])]; exact hP) hS (fun n113 ls H locs hn113 hP hS hl K113 => ?_) (fun ls H locs hP hS hl => ?_)
        · have hl : lv_has ls 8 [(0, .ref M.1), (1, .int (nI h)), (2, .int (sRv σ)), (3, .int (nI n7)), (4, .int (nI n113))] := hl
          have hI113a : InvS (B + n7 + 1) (sp2 (setHr (passN σ n7) (sHr (passN σ n7) + 1)) n113) := invS_sp2 hI8 (show n113 ≤ sK (setHr (passN σ n7) (sHr (passN σ n7) + 1)) from by rw [show sK (setHr (passN σ n7) (sHr (passN σ n7) + 1)) = sK σ from k_pass σ n7]; exact (Nat.le_of_lt hn113))
          obtain ⟨τ113, hτ113⟩ : ∃ τ, τ = sp2 (setHr (passN σ n7) (sHr (passN σ n7) + 1)) n113 := ⟨_, rfl⟩
          have hk113 : sK τ113 = sK σ := by rw [hτ113]; exact k_pass σ n7
          rw [← hτ113] at hP hI113a
          have hap113 : AptS M (sK τ113) := by rw [hk113]; exact hap
          have hm113 : n113 < sK τ113 := by rw [hk113]; exact hn113
          refine lv_iload hx hb dX2_pass_113 (lv_at hl 4 rfl) ?_
          refine lv_aload_n hx hb dX2_pass_115 rfl (lv_at hl 0 rfl) ?_
          refine va_get (D := D) (ci := 3) (v := .ref M.2.1) (C := RX2) (T := TX2) (N := 4) hx hb hts in_X2_pass_X2 hown hK hP 0 rfl rfl 3 (by decide) (hts (.fieldLink RX2 9 "ShadowSocietyLaw$Sim" "members" "[[I") (List.mem_of_getElem? (i := 3) (by decide +kernel))) (fun _ h9 => h9) rfl dX2_pass_116 ?_
          refine va_alen hx hb hK hP 1 2 rfl rfl (v := nI (sK τ113)) rfl dX2_pass_119 ?_
          refine lv_icmp_ge (tgt := 156) hx hb dX2_pass_120 (by decide) (fun c9 => absurd c9 (nI_ge hm113 (by rw [hk113]; have := hI.1; omega))) (fun _ => ?_)
          refine lv_aload_n hx hb dX2_pass_123 rfl (lv_at hl 0 rfl) ?_
          refine va_get (D := D) (ci := 3) (v := .ref M.2.1) (C := RX2) (T := TX2) (N := 4) hx hb hts in_X2_pass_X2 hown hK hP 0 rfl rfl 3 (by decide) (hts (.fieldLink RX2 9 "ShadowSocietyLaw$Sim" "members" "[[I") (List.mem_of_getElem? (i := 3) (by decide +kernel))) (fun _ h9 => h9) rfl dX2_pass_124 ?_
          refine lv_iload hx hb dX2_pass_127 (lv_at hl 4 rfl) ?_
          refine va_aldA hx hb hK hP 1 2 rfl rfl (vp_in_nI hm113 (by have := hI113a.1; omega)) (elm_at hm113 hI113a.1) dX2_pass_129 ?_
          refine lv_iconst (v := 4) hx hb dX2_pass_130 (by decide) ?_
          refine lv_aload_n hx hb dX2_pass_131 rfl (lv_at hl 0 rfl) ?_
          refine va_get (D := D) (ci := 3) (v := .ref M.2.1) (C := RX2) (T := TX2) (N := 4) hx hb hts in_X2_pass_X2 hown hK hP 0 rfl rfl 3 (by decide) (hts (.fieldLink RX2 9 "ShadowSocietyLaw$Sim" "members" "[[I") (List.mem_of_getElem? (i := 3) (by decide +kernel))) (fun _ h9 => h9) rfl dX2_pass_132 ?_
          refine lv_iload hx hb dX2_pass_135 (lv_at hl 4 rfl) ?_
          refine va_aldA hx hb hK hP 1 2 rfl rfl (vp_in_nI hm113 (by have := hI113a.1; omega)) (elm_at hm113 hI113a.1) dX2_pass_137 ?_
          refine lv_iconst (v := 1) hx hb dX2_pass_138 (by decide) ?_
          refine va_iald hx hb hK hP (2 + n113) 0 (simW_at hm113) rfl (by unfold vp_in; decide) dX2_pass_139 ?_
          rw [show rowF τ113 n113 (1 : Int32).toNatClampNeg = sHa τ113 n113 from rfl]
          refine lv_if_le (tgt := 148) hx hb dX2_pass_140 (by decide) (fun c_10 => ?_) (fun c_10 => ?_)
          · refine lv_iconst (v := (-1)) hx hb dX2_pass_148 (by decide) ?_
            refine W.eq (g2 := F0 m 149 ls [.int (ownH τ113 n113), .int 4, .ref (M.2.2 n113)]) (by rw [show ownH τ113 n113 = -1 from if_neg (fun q => Int32.not_le.mpr q c_10)]) ?_
            refine va_iast hx hb hK hP (sim_D (A := smA M (sK σ) s.heap) hap113 (fun q h => Or.inl (own_k hk113 h))) hS (2 + n113) 0 (simW_at hm113) rfl (by unfold vp_in; decide) dX2_pass_149 (fun H locs hP hD hS => ?_)
            rw [show (4 : Int32).toNatClampNeg = 4 from rfl, t_We (σ := τ113) hm113] at hP
            have hP : va_P D vwCl (simW cs M (setWe τ113 (upd (sWe τ113) n113 (ownH τ113 n113)))) H := hP
            have hI_11 : InvS (B + n7 + 1) (setWe τ113 (upd (sWe τ113) n113 (ownH τ113 n113))) := invS_we hI113a (ownH_in hm113)
            refine lv_iinc (v := nI (n113 + 1)) (lv' := [(4, .int (nI (n113 + 1))), (0, .ref M.1), (1, .int (nI h)), (2, .int (sRv σ)), (3, .int (nI n7))]) hx hb dX2_pass_150 hl (k := 4) rfl (nI_add _ 1) (by decide) rfl (fun ls hl => ?_)
            refine lv_goto (tgt := 113) hx hb dX2_pass_153 (by decide) ?_
            refine K113 ls _ _ ?_ hS ?_
            · subst hτ113
              rw [show sp2 (setHr (passN σ n7) (sHr (passN σ n7) + 1)) (n113 + 1) = setWe (sp2 (setHr (passN σ n7) (sHr (passN σ n7) + 1)) n113) (upd (sWe (sp2 (setHr (passN σ n7) (sHr (passN σ n7) + 1)) n113)) n113 (ownH (sp2 (setHr (passN σ n7) (sHr (passN σ n7) + 1)) n113) n113)) from (sp2_n (setHr (passN σ n7) (sHr (passN σ n7) + 1)) n113)]
              exact hP
            · show lv_has ls 8 [(0, .ref M.1), (1, .int (nI h)), (2, .int (sRv σ)), (3, .int (nI n7)), (4, .int (nI (n113 + 1)))]
              exact lv_sub hl [1, 2, 3, 4, 0] rfl
          · refine lv_iload hx hb dX2_pass_143 (lv_at hl 4 rfl) ?_
            refine lv_goto (tgt := 149) hx hb dX2_pass_145 (by decide) ?_
            refine W.eq (g2 := F0 m 149 ls [.int (ownH τ113 n113), .int 4, .ref (M.2.2 n113)]) (by rw [show ownH τ113 n113 = nI n113 from if_pos (Int32.not_le.mp c_10)]) ?_
            refine va_iast hx hb hK hP (sim_D (A := smA M (sK σ) s.heap) hap113 (fun q h => Or.inl (own_k hk113 h))) hS (2 + n113) 0 (simW_at hm113) rfl (by unfold vp_in; decide) dX2_pass_149 (fun H locs hP hD hS => ?_)
            rw [show (4 : Int32).toNatClampNeg = 4 from rfl, t_We (σ := τ113) hm113] at hP
            have hP : va_P D vwCl (simW cs M (setWe τ113 (upd (sWe τ113) n113 (ownH τ113 n113)))) H := hP
            have hI_12 : InvS (B + n7 + 1) (setWe τ113 (upd (sWe τ113) n113 (ownH τ113 n113))) := invS_we hI113a (ownH_in hm113)
            refine lv_iinc (v := nI (n113 + 1)) (lv' := [(4, .int (nI (n113 + 1))), (0, .ref M.1), (1, .int (nI h)), (2, .int (sRv σ)), (3, .int (nI n7))]) hx hb dX2_pass_150 hl (k := 4) rfl (nI_add _ 1) (by decide) rfl (fun ls hl => ?_)
            refine lv_goto (tgt := 113) hx hb dX2_pass_153 (by decide) ?_
            refine K113 ls _ _ ?_ hS ?_
            · subst hτ113
              rw [show sp2 (setHr (passN σ n7) (sHr (passN σ n7) + 1)) (n113 + 1) = setWe (sp2 (setHr (passN σ n7) (sHr (passN σ n7) + 1)) n113) (upd (sWe (sp2 (setHr (passN σ n7) (sHr (passN σ n7) + 1)) n113)) n113 (ownH (sp2 (setHr (passN σ n7) (sHr (passN σ n7) + 1)) n113) n113)) from (sp2_n (setHr (passN σ n7) (sHr (passN σ n7) + 1)) n113)]
              exact hP
            · show lv_has ls 8 [(0, .ref M.1), (1, .int (nI h)), (2, .int (sRv σ)), (3, .int (nI n7)), (4, .int (nI (n113 + 1)))]
              exact lv_sub hl [1, 2, 3, 4, 0] rfl
        · have hl : lv_has ls 8 [(0, .ref M.1), (1, .int (nI h)), (2, .int (sRv σ)), (3, .int (nI n7)), (4, .int (nI (sK σ)))] := hl
          have hI113b : InvS (B + n7 + 1) (sp2 (setHr (passN σ n7) (sHr (passN σ n7) + 1)) (sK σ)) := invS_sp2 hI8 (show sK σ ≤ sK (setHr (passN σ n7) (sHr (passN σ n7) + 1)) from by rw [show sK (setHr (passN σ n7) (sHr (passN σ n7) + 1)) = sK σ from k_pass σ n7]; exact (Nat.le_refl _))
          refine lv_iload hx hb dX2_pass_113 (lv_at hl 4 rfl) ?_
          refine lv_aload_n hx hb dX2_pass_115 rfl (lv_at hl 0 rfl) ?_
          refine va_get (D := D) (ci := 3) (v := .ref M.2.1) (C := RX2) (T := TX2) (N := 4) hx hb hts in_X2_pass_X2 hown hK hP 0 rfl rfl 3 (by decide) (hts (.fieldLink RX2 9 "ShadowSocietyLaw$Sim" "members" "[[I") (List.mem_of_getElem? (i := 3) (by decide +kernel))) (fun _ h9 => h9) rfl dX2_pass_116 ?_
          refine va_alen hx hb hK hP 1 2 rfl rfl (v := nI (sK (sp2 (setHr (passN σ n7) (sHr (passN σ n7) + 1)) (sK σ)))) rfl dX2_pass_119 ?_
          refine lv_icmp_ge (tgt := 156) hx hb dX2_pass_120 (by decide) (fun _ => ?_) (fun c9 => absurd ((by rw [show sK (sp2 (setHr (passN σ n7) (sHr (passN σ n7) + 1)) (sK σ)) = sK σ from k_pass σ n7]; exact nI_le (Nat.le_refl _) (by have := hI.1; omega))) c9)
          refine lv_iconst (v := 0) hx hb dX2_pass_156 (by decide) ?_
          refine lv_istore (lv' := [(4, .int 0), (0, .ref M.1), (1, .int (nI h)), (2, .int (sRv σ)), (3, .int (nI n7))]) hx hb dX2_pass_157 hl (by decide) rfl (fun ls hl => ?_)
          refine lv_forH (sK σ) (fun ls => F0 m 159 ls []) (fun n159 => [(0, .ref M.1), (1, .int (nI h)), (2, .int (sRv σ)), (3, .int (nI n7)), (4, .int (nI n159))]) (fun n159 X => va_P D vwCl (simW cs M (sp3 (setHr (passN σ n7) (sHr (passN σ n7) + 1)) n159)) X) (show lv_has ls 8 [(0, .ref M.1), (1, .int (nI h)), (2, .int (sRv σ)), (3, .int (nI n7)), (4, .int (nI 0))] from lv_sub hl [1, 2, 3, 4, 0] rfl) (show va_P D vwCl (simW cs M (sp3 (setHr (passN σ n7) (sHr (passN σ n7) + 1)) 0)) _ from by rw [show sp3 (setHr (passN σ n7) (sHr (passN σ n7) + 1)) 0 = sp2 (setHr (passN σ n7) (sHr (passN σ n7) + 1)) (sK σ) from (sp3_0 _).trans (by rw [show sK (setHr (passN σ n7) (sHr (passN σ n7) + 1)) = sK σ from k_pass σ n7])]; exact hP) hS (fun n159 ls H locs hn159 hP hS hl K159 => ?_) (fun ls H locs hP hS hl => ?_)
          · have hl : lv_has ls 8 [(0, .ref M.1), (1, .int (nI h)), (2, .int (sRv σ)), (3, .int (nI n7)), (4, .int (nI n159))] := hl
            have hI159a : InvS (B + n7 + 1) (sp3 (setHr (passN σ n7) (sHr (passN σ n7) + 1)) n159) := invS_sp3 hI8 n159
            obtain ⟨τ159, hτ159⟩ : ∃ τ, τ = sp3 (setHr (passN σ n7) (sHr (passN σ n7) + 1)) n159 := ⟨_, rfl⟩
            have hk159 : sK τ159 = sK σ := by rw [hτ159]; exact k_pass σ n7
            rw [← hτ159] at hP hI159a
            have hap159 : AptS M (sK τ159) := by rw [hk159]; exact hap
            have hm159 : n159 < sK τ159 := by rw [hk159]; exact hn159
            have cer159 : ¬ sCe τ159 n159 ≥ 0 → sCe τ159 n159 = -1 := fun z => by rw [hτ159] at z ⊢; rw [sp3_Ce] at z ⊢; exact cer_lt hC7 (show n159 < sK (passN σ n7) from by rw [k_pass]; exact hn159) z
            refine lv_iload hx hb dX2_pass_159 (lv_at hl 4 rfl) ?_
            refine lv_aload_n hx hb dX2_pass_161 rfl (lv_at hl 0 rfl) ?_
            refine va_get (D := D) (ci := 3) (v := .ref M.2.1) (C := RX2) (T := TX2) (N := 4) hx hb hts in_X2_pass_X2 hown hK hP 0 rfl rfl 3 (by decide) (hts (.fieldLink RX2 9 "ShadowSocietyLaw$Sim" "members" "[[I") (List.mem_of_getElem? (i := 3) (by decide +kernel))) (fun _ h9 => h9) rfl dX2_pass_162 ?_
            refine va_alen hx hb hK hP 1 2 rfl rfl (v := nI (sK τ159)) rfl dX2_pass_165 ?_
            refine lv_icmp_ge (tgt := 252) hx hb dX2_pass_166 (by decide) (fun c9 => absurd c9 (nI_ge hm159 (by rw [hk159]; have := hI.1; omega))) (fun _ => ?_)
            refine lv_aload_n hx hb dX2_pass_169 rfl (lv_at hl 0 rfl) ?_
            refine va_get (D := D) (ci := 3) (v := .ref M.2.1) (C := RX2) (T := TX2) (N := 4) hx hb hts in_X2_pass_X2 hown hK hP 0 rfl rfl 3 (by decide) (hts (.fieldLink RX2 9 "ShadowSocietyLaw$Sim" "members" "[[I") (List.mem_of_getElem? (i := 3) (by decide +kernel))) (fun _ h9 => h9) rfl dX2_pass_170 ?_
            refine lv_iload hx hb dX2_pass_173 (lv_at hl 4 rfl) ?_
            refine va_aldA hx hb hK hP 1 2 rfl rfl (vp_in_nI hm159 (by have := hI159a.1; omega)) (elm_at hm159 hI159a.1) dX2_pass_175 ?_
            refine lv_astore (lv' := [(5, .ref (M.2.2 n159)), (0, .ref M.1), (1, .int (nI h)), (2, .int (sRv σ)), (3, .int (nI n7)), (4, .int (nI n159))]) hx hb dX2_pass_176 hl (by decide) rfl (fun ls hl => ?_)
            refine lv_aload hx hb dX2_pass_178 (lv_at hl 0 rfl) ?_
            refine lv_iconst (v := 5) hx hb dX2_pass_180 (by decide) ?_
            refine va_iald hx hb hK hP (2 + n159) 0 (simW_at hm159) rfl (by unfold vp_in; decide) dX2_pass_181 ?_
            rw [show rowF τ159 n159 (5 : Int32).toNatClampNeg = sCe τ159 n159 from rfl]
            refine lv_if_ge (tgt := 188) hx hb dX2_pass_182 (by decide) (fun c_13 => ?_) (fun c_13 => ?_)
            · refine lv_aload_n hx hb dX2_pass_188 rfl (lv_at hl 1 rfl) ?_
              refine lv_iload hx hb dX2_pass_189 (lv_at hl 5 rfl) ?_
              refine vp_callSi (va_Run.run (va_runV (As := [.int (nI n159)]) (rest := []) ⟨hx, hb, hml, hown, hts⟩ (c_X2_isHonest l D cs M hI159a n159 hm159) (cwV 1 hts gX2_pass_X2_isHonest rfl rfl rfl (by decide +kernel) ⟨Nat.le_of_ble_eq_true rfl, Nat.le_of_ble_eq_true rfl⟩) (rb_V hK hN hP (va_recv hK hP (ci := 3) (q0 := 0) rfl rfl)) rfl rfl hl.1 rfl (lv_room (Nat.le_of_ble_eq_true rfl)) dX2_pass_191 ⟨Nat.le_of_ble_eq_true rfl, Nat.le_of_ble_eq_true rfl⟩)) (fun r_14 hr_14 => ?_)
              rw [hr_14]
              refine lv_istore (lv' := [(6, .int (b01 (truC τ159 n159))), (5, .ref (M.2.2 n159)), (0, .ref M.1), (1, .int (nI h)), (2, .int (sRv σ)), (3, .int (nI n7)), (4, .int (nI n159))]) hx hb dX2_pass_194 hl (by decide) rfl (fun ls hl => ?_)
              refine lv_aload hx hb dX2_pass_196 (lv_at hl 1 rfl) ?_
              refine lv_iconst (v := 2) hx hb dX2_pass_198 (by decide) ?_
              refine lv_dup2_11 hx hb dX2_pass_199 rfl rfl ?_
              refine va_iald hx hb hK hP (2 + n159) 0 (simW_at hm159) rfl (by unfold vp_in; decide) dX2_pass_200 ?_
              rw [show rowF τ159 n159 (2 : Int32).toNatClampNeg = sPu τ159 n159 from rfl]
              refine lv_iload hx hb dX2_pass_201 (lv_at hl 0 rfl) ?_
              refine lv_if_eq (tgt := 210) hx hb dX2_pass_203 (by decide) (fun c_15 => ?_) (fun c_15 => ?_)
              · refine lv_bipush (v := (-10)) hx hb dX2_pass_210 (by decide) ?_
                refine lv_iadd hx hb dX2_pass_212 ?_
                refine va_iast hx hb hK hP (sim_D (A := smA M (sK σ) s.heap) hap159 (fun q h => Or.inl (own_k hk159 h))) hS (2 + n159) 0 (simW_at hm159) rfl (by unfold vp_in; decide) dX2_pass_213 (fun H locs hP hD hS => ?_)
                rw [show (2 : Int32).toNatClampNeg = 2 from rfl, t_Pu (σ := τ159) hm159] at hP
                have hP : va_P D vwCl (simW cs M (setPu τ159 (upd (sPu τ159) n159 ((sPu τ159 n159) + (-10))))) H := hP
                have hI_16 : InvS (B + n7 + 1) (setPu τ159 (upd (sPu τ159) n159 ((sPu τ159 n159) + (-10)))) := hI159a
                refine lv_iload hx hb dX2_pass_214 (lv_at hl 0 rfl) ?_
                refine lv_if_eq (tgt := 222) hx hb dX2_pass_216 (by decide) (fun _ => ?_) (fun c9 => absurd (c_15) c9)
                refine lv_aload hx hb dX2_pass_222 (lv_at hl 1 rfl) ?_
                refine lv_iconst (v := 5) hx hb dX2_pass_224 (by decide) ?_
                refine lv_iconst (v := (-1)) hx hb dX2_pass_225 (by decide) ?_
                refine va_iast hx hb hK hP (sim_D (A := smA M (sK σ) s.heap) hap159 (fun q h => Or.inl (own_k hk159 h))) hS (2 + n159) 0 (simW_at hm159) rfl (by unfold vp_in; decide) dX2_pass_226 (fun H locs hP hD hS => ?_)
                rw [show (5 : Int32).toNatClampNeg = 5 from rfl, t_Ce (σ := (setPu τ159 (upd (sPu τ159) n159 ((sPu τ159 n159) + (-10))))) hm159] at hP
                have hP : va_P D vwCl (simW cs M (setCe (setPu τ159 (upd (sPu τ159) n159 ((sPu τ159 n159) + (-10)))) (upd (sCe τ159) n159 (-1)))) H := hP
                have hI_17 : InvS (B + n7 + 1) (setCe (setPu τ159 (upd (sPu τ159) n159 ((sPu τ159 n159) + (-10)))) (upd (sCe τ159) n159 (-1))) := hI_16
                refine lv_aload hx hb dX2_pass_227 (lv_at hl 1 rfl) ?_
                refine lv_bipush (v := 7) hx hb dX2_pass_229 (by decide) ?_
                refine lv_dup2_11 hx hb dX2_pass_231 rfl rfl ?_
                refine va_iald hx hb hK hP (2 + n159) 0 (simW_at hm159) rfl (by unfold vp_in; decide) dX2_pass_232 ?_
                rw [show rowF (setCe (setPu τ159 (upd (sPu τ159) n159 ((sPu τ159 n159) + (-10)))) (upd (sCe τ159) n159 (-1))) n159 (7 : Int32).toNatClampNeg = sLo τ159 n159 from rfl]
                refine lv_iconst (v := 1) hx hb dX2_pass_233 (by decide) ?_
                refine lv_iadd hx hb dX2_pass_234 ?_
                refine va_iast hx hb hK hP (sim_D (A := smA M (sK σ) s.heap) hap159 (fun q h => Or.inl (own_k hk159 h))) hS (2 + n159) 0 (simW_at hm159) rfl (by unfold vp_in; decide) dX2_pass_235 (fun H locs hP hD hS => ?_)
                rw [show (7 : Int32).toNatClampNeg = 7 from rfl, t_Lo (σ := (setCe (setPu τ159 (upd (sPu τ159) n159 ((sPu τ159 n159) + (-10)))) (upd (sCe τ159) n159 (-1)))) hm159] at hP
                have hP : va_P D vwCl (simW cs M (setLo (setCe (setPu τ159 (upd (sPu τ159) n159 ((sPu τ159 n159) + (-10)))) (upd (sCe τ159) n159 (-1))) (upd (sLo τ159) n159 ((sLo τ159 n159) + 1)))) H := hP
                have hI_18 : InvS (B + n7 + 1) (setLo (setCe (setPu τ159 (upd (sPu τ159) n159 ((sPu τ159 n159) + (-10)))) (upd (sCe τ159) n159 (-1))) (upd (sLo τ159) n159 ((sLo τ159 n159) + 1))) := hI_17
                refine lv_aload_n hx hb dX2_pass_236 rfl (lv_at hl 2 rfl) ?_
                refine lv_dup hx hb dX2_pass_237 rfl ?_
                refine va_get (D := D) (ci := 3) (v := .int (sRv τ159)) (C := RX2) (T := TX2) (N := 4) hx hb hts in_X2_pass_X2 hown hK hP 0 rfl rfl 2 (by decide) (hts (.fieldLink RX2 23 "ShadowSocietyLaw$Sim" "revoked" "I") (List.mem_of_getElem? (i := 1) (by decide +kernel))) (fun _ h9 => h9) rfl dX2_pass_238 ?_
                refine lv_iconst (v := 1) hx hb dX2_pass_241 (by decide) ?_
                refine lv_iadd hx hb dX2_pass_242 ?_
                refine va_put (D := D) (ci := 3) (v := .int ((sRv τ159) + 1)) (ty := .int) (C := RX2) (T := TX2) (N := 4) hx hb hts in_X2_pass_X2 tyX2 tyX2_ok nmX2 hown hK hP (sim_D (A := smA M (sK σ) s.heap) hap159 (fun q h => Or.inl (own_k hk159 h))) hS 0 rfl rfl 2 (by decide) (hts (.fieldLink RX2 23 "ShadowSocietyLaw$Sim" "revoked" "I") (List.mem_of_getElem? (i := 1) (by decide +kernel))) (fun _ h9 => h9) rfl (by decide +kernel) rfl rfl (Nat.le_of_ble_eq_true rfl) dX2_pass_243 (fun H locs hP hD hS => ?_)
                have hP : va_P D vwCl (simW cs M (setRv (setLo (setCe (setPu τ159 (upd (sPu τ159) n159 ((sPu τ159 n159) + (-10)))) (upd (sCe τ159) n159 (-1))) (upd (sLo τ159) n159 ((sLo τ159 n159) + 1))) ((sRv τ159) + 1))) H := hP
                have hI_19 : InvS (B + n7 + 1) (setRv (setLo (setCe (setPu τ159 (upd (sPu τ159) n159 ((sPu τ159 n159) + (-10)))) (upd (sCe τ159) n159 (-1))) (upd (sLo τ159) n159 ((sLo τ159 n159) + 1))) ((sRv τ159) + 1)) := hI_18
                refine lv_iinc (v := nI (n159 + 1)) (lv' := [(4, .int (nI (n159 + 1))), (6, .int (b01 (truC τ159 n159))), (5, .ref (M.2.2 n159)), (0, .ref M.1), (1, .int (nI h)), (2, .int (sRv σ)), (3, .int (nI n7))]) hx hb dX2_pass_246 hl (k := 6) rfl (nI_add _ 1) (by decide) rfl (fun ls hl => ?_)
                refine lv_goto (tgt := 159) hx hb dX2_pass_249 (by decide) ?_
                refine K159 ls _ _ ?_ hS ?_
                · subst hτ159
                  rw [show sp3 (setHr (passN σ n7) (sHr (passN σ n7) + 1)) (n159 + 1) = setRv (setLo (setCe (setPu (sp3 (setHr (passN σ n7) (sHr (passN σ n7) + 1)) n159) (upd (sPu (sp3 (setHr (passN σ n7) (sHr (passN σ n7) + 1)) n159)) n159 ((sPu (sp3 (setHr (passN σ n7) (sHr (passN σ n7) + 1)) n159) n159) + (-10)))) (upd (sCe (sp3 (setHr (passN σ n7) (sHr (passN σ n7) + 1)) n159)) n159 (-1))) (upd (sLo (sp3 (setHr (passN σ n7) (sHr (passN σ n7) + 1)) n159)) n159 ((sLo (sp3 (setHr (passN σ n7) (sHr (passN σ n7) + 1)) n159) n159) + 1))) ((sRv (sp3 (setHr (passN σ n7) (sHr (passN σ n7) + 1)) n159)) + 1) from sp3_c (show n159 < sK (setHr (passN σ n7) (sHr (passN σ n7) + 1)) from by rw [show sK (setHr (passN σ n7) (sHr (passN σ n7) + 1)) = sK σ from k_pass σ n7]; exact hn159) (fun q => cer_ge c_13 ((sp3_Ce (setHr (passN σ n7) (sHr (passN σ n7) + 1)) n159).trans q)) (fun q => b01_0.mp c_15 ((sp3_tr (setHr (passN σ n7) (sHr (passN σ n7) + 1)) n159).mpr q))]
                  exact hP
                · show lv_has ls 8 [(0, .ref M.1), (1, .int (nI h)), (2, .int (sRv σ)), (3, .int (nI n7)), (4, .int (nI (n159 + 1)))]
                  exact lv_sub hl [3, 4, 5, 6, 0] rfl
              · refine lv_iconst (v := 3) hx hb dX2_pass_206 (by decide) ?_
                refine lv_goto (tgt := 212) hx hb dX2_pass_207 (by decide) ?_
                refine lv_iadd hx hb dX2_pass_212 ?_
                refine va_iast hx hb hK hP (sim_D (A := smA M (sK σ) s.heap) hap159 (fun q h => Or.inl (own_k hk159 h))) hS (2 + n159) 0 (simW_at hm159) rfl (by unfold vp_in; decide) dX2_pass_213 (fun H locs hP hD hS => ?_)
                rw [show (2 : Int32).toNatClampNeg = 2 from rfl, t_Pu (σ := τ159) hm159] at hP
                have hP : va_P D vwCl (simW cs M (setPu τ159 (upd (sPu τ159) n159 ((sPu τ159 n159) + 3)))) H := hP
                have hI_20 : InvS (B + n7 + 1) (setPu τ159 (upd (sPu τ159) n159 ((sPu τ159 n159) + 3))) := hI159a
                refine lv_iload hx hb dX2_pass_214 (lv_at hl 0 rfl) ?_
                refine lv_if_eq (tgt := 222) hx hb dX2_pass_216 (by decide) (fun c9 => absurd c9 (c_15)) (fun _ => ?_)
                refine lv_goto (tgt := 246) hx hb dX2_pass_219 (by decide) ?_
                refine lv_iinc (v := nI (n159 + 1)) (lv' := [(4, .int (nI (n159 + 1))), (6, .int (b01 (truC τ159 n159))), (5, .ref (M.2.2 n159)), (0, .ref M.1), (1, .int (nI h)), (2, .int (sRv σ)), (3, .int (nI n7))]) hx hb dX2_pass_246 hl (k := 6) rfl (nI_add _ 1) (by decide) rfl (fun ls hl => ?_)
                refine lv_goto (tgt := 159) hx hb dX2_pass_249 (by decide) ?_
                refine K159 ls _ _ ?_ hS ?_
                · subst hτ159
                  rw [show sp3 (setHr (passN σ n7) (sHr (passN σ n7) + 1)) (n159 + 1) = setPu (sp3 (setHr (passN σ n7) (sHr (passN σ n7) + 1)) n159) (upd (sPu (sp3 (setHr (passN σ n7) (sHr (passN σ n7) + 1)) n159)) n159 ((sPu (sp3 (setHr (passN σ n7) (sHr (passN σ n7) + 1)) n159) n159) + 3)) from sp3_b (show n159 < sK (setHr (passN σ n7) (sHr (passN σ n7) + 1)) from by rw [show sK (setHr (passN σ n7) (sHr (passN σ n7) + 1)) = sK σ from k_pass σ n7]; exact hn159) (fun q => cer_ge c_13 ((sp3_Ce (setHr (passN σ n7) (sHr (passN σ n7) + 1)) n159).trans q)) ((sp3_tr (setHr (passN σ n7) (sHr (passN σ n7) + 1)) n159).mp (b01_n.mp c_15))]
                  exact hP
                · show lv_has ls 8 [(0, .ref M.1), (1, .int (nI h)), (2, .int (sRv σ)), (3, .int (nI n7)), (4, .int (nI (n159 + 1)))]
                  exact lv_sub hl [3, 4, 5, 6, 0] rfl
            · refine lv_goto (tgt := 246) hx hb dX2_pass_185 (by decide) ?_
              refine lv_iinc (v := nI (n159 + 1)) (lv' := [(4, .int (nI (n159 + 1))), (5, .ref (M.2.2 n159)), (0, .ref M.1), (1, .int (nI h)), (2, .int (sRv σ)), (3, .int (nI n7))]) hx hb dX2_pass_246 hl (k := 5) rfl (nI_add _ 1) (by decide) rfl (fun ls hl => ?_)
              refine lv_goto (tgt := 159) hx hb dX2_pass_249 (by decide) ?_
              refine K159 ls _ _ ?_ hS ?_
              · subst hτ159
                rw [show sp3 (setHr (passN σ n7) (sHr (passN σ n7) + 1)) (n159 + 1) = (sp3 (setHr (passN σ n7) (sHr (passN σ n7) + 1)) n159) from sp3_a (show n159 < sK (setHr (passN σ n7) (sHr (passN σ n7) + 1)) from by rw [show sK (setHr (passN σ n7) (sHr (passN σ n7) + 1)) = sK σ from k_pass σ n7]; exact hn159) ((sp3_Ce (setHr (passN σ n7) (sHr (passN σ n7) + 1)) n159).symm.trans (cer159 c_13))]
                exact hP
              · show lv_has ls 8 [(0, .ref M.1), (1, .int (nI h)), (2, .int (sRv σ)), (3, .int (nI n7)), (4, .int (nI (n159 + 1)))]
                exact lv_sub hl [2, 3, 4, 5, 0] rfl
          · have hl : lv_has ls 8 [(0, .ref M.1), (1, .int (nI h)), (2, .int (sRv σ)), (3, .int (nI n7)), (4, .int (nI (sK σ)))] := hl
            have hI159b : InvS (B + n7 + 1) (sp3 (setHr (passN σ n7) (sHr (passN σ n7) + 1)) (sK σ)) := invS_sp3 hI8 (sK σ)
            rw [show sp3 (setHr (passN σ n7) (sHr (passN σ n7) + 1)) (sK σ) = audS (setHr (passN σ n7) (sHr (passN σ n7) + 1)) from by rw [← k_pass σ n7]; exact sp3_k hT8] at hP
            have hI8e : InvS (B + n7 + 1) (audS (setHr (passN σ n7) (sHr (passN σ n7) + 1))) := invS_aud hI8
            refine lv_iload hx hb dX2_pass_159 (lv_at hl 4 rfl) ?_
            refine lv_aload_n hx hb dX2_pass_161 rfl (lv_at hl 0 rfl) ?_
            refine va_get (D := D) (ci := 3) (v := .ref M.2.1) (C := RX2) (T := TX2) (N := 4) hx hb hts in_X2_pass_X2 hown hK hP 0 rfl rfl 3 (by decide) (hts (.fieldLink RX2 9 "ShadowSocietyLaw$Sim" "members" "[[I") (List.mem_of_getElem? (i := 3) (by decide +kernel))) (fun _ h9 => h9) rfl dX2_pass_162 ?_
            refine va_alen hx hb hK hP 1 2 rfl rfl (v := nI (sK (audS (setHr (passN σ n7) (sHr (passN σ n7) + 1))))) rfl dX2_pass_165 ?_
            refine lv_icmp_ge (tgt := 252) hx hb dX2_pass_166 (by decide) (fun _ => ?_) (fun c9 => absurd ((by rw [show sK (audS (setHr (passN σ n7) (sHr (passN σ n7) + 1))) = sK σ from (k_aud _).trans (k_pass σ n7)]; exact nI_le (Nat.le_refl _) (by have := hI.1; omega))) c9)
            refine lv_iinc (v := nI (n7 + 1)) (lv' := [(3, .int (nI (n7 + 1))), (0, .ref M.1), (1, .int (nI h)), (2, .int (sRv σ)), (4, .int (nI (sK σ)))]) hx hb dX2_pass_252 hl (k := 3) rfl (nI_add _ 1) (by decide) rfl (fun ls hl => ?_)
            refine lv_goto (tgt := 7) hx hb dX2_pass_255 (by decide) ?_
            refine K7 ls _ _ ?_ hS ?_
            · skip
              rw [show passN σ (n7 + 1) = audS (setHr (passN σ n7) (sHr (passN σ n7) + 1)) from (show hourS (passN σ n7) = _ from if_neg (fun q => q (show dayOf (setHr (passN σ n7) (sHr (passN σ n7) + 1)) = 12 from c_2)))]
              exact hP
            · show lv_has ls 8 [(0, .ref M.1), (1, .int (nI h)), (2, .int (sRv σ)), (3, .int (nI (n7 + 1)))]
              exact lv_sub hl [1, 2, 3, 0] rfl
    · refine lv_goto (tgt := 252) hx hb dX2_pass_34 (by decide) ?_
      refine lv_iinc (v := nI (n7 + 1)) (lv' := [(3, .int (nI (n7 + 1))), (0, .ref M.1), (1, .int (nI h)), (2, .int (sRv σ))]) hx hb dX2_pass_252 hl (k := 3) rfl (nI_add _ 1) (by decide) rfl (fun ls hl => ?_)
      refine lv_goto (tgt := 7) hx hb dX2_pass_255 (by decide) ?_
      refine K7 ls _ _ ?_ hS ?_
      · skip
        rw [show passN σ (n7 + 1) = setHr (passN σ n7) ((sHr (passN σ n7)) + 1) from (show hourS (passN σ n7) = _ from if_pos (show ¬ dayOf (setHr (passN σ n7) (sHr (passN σ n7) + 1)) = 12 from c_2))]
        exact hP
      · show lv_has ls 8 [(0, .ref M.1), (1, .int (nI h)), (2, .int (sRv σ)), (3, .int (nI (n7 + 1)))]
        exact lv_sub hl [1, 2, 3, 0] rfl
  · have hl : lv_has ls 8 [(0, .ref M.1), (1, .int (nI h)), (2, .int (sRv σ)), (3, .int (nI h))] := hl
    have hI7b : InvS (B + h) (passN σ h) := (invQ_passN hQ h (by omega)).1.1
    refine lv_iload_n hx hb dX2_pass_7 rfl (lv_at hl 3 rfl) ?_
    refine lv_iload_n hx hb dX2_pass_8 rfl (lv_at hl 1 rfl) ?_
    refine lv_icmp_ge (tgt := 258) hx hb dX2_pass_9 (by decide) (fun _ => ?_) (fun c9 => absurd (nI_le (Nat.le_refl _) (by omega)) c9)
    refine lv_aload_n hx hb dX2_pass_258 rfl (lv_at hl 0 rfl) ?_
    refine va_get (D := D) (ci := 3) (v := .int (sRv (passN σ h))) (C := RX2) (T := TX2) (N := 4) hx hb hts in_X2_pass_X2 hown hK hP 0 rfl rfl 2 (by decide) (hts (.fieldLink RX2 23 "ShadowSocietyLaw$Sim" "revoked" "I") (List.mem_of_getElem? (i := 1) (by decide +kernel))) (fun _ h9 => h9) rfl dX2_pass_259 ?_
    refine lv_iload_n hx hb dX2_pass_262 rfl (lv_at hl 2 rfl) ?_
    refine lv_isub hx hb dX2_pass_263 ?_
    exact W.iret (v := (sRv (passN σ h)) - (sRv σ)) hx hb hr (fun t ht hW => ⟨⟨_, passN σ h, rfl, ⟨rfl, rfl⟩, by show va_P D vwCl (simW cs M _) t.heap; rw [ht]; exact hP⟩, hS.F ht⟩) hS.2.2 dX2_pass_264
