/-! THE LAW'S OWN SOCIETY: methods that only read (laid by wip/p35/gen/sim.py) -/
set_option maxHeartbeats 4000000 in
set_option maxRecDepth 100000 in
/-- a height by the sun of an hour -/
theorem c_X2_cast (l : Launch) (D : va_G) (cs : Cs) (x h : Int32) : Met l yX2_cast wsX2_cast ({ frames := 0, cells := 0, slots := 0, locals := 0 }) (va_Pc [.int x, .int h] (RBp D cs (fun _ => True))) (vp_Si (fun r : Int32 => r = natSh x h)) 0 0 (fun _ => False) := by
  refine Met.ofW (cc := cX2_cast) (maxL := 2) (ret := (some .int)) (by decide) rfl ?_
  intro p e s m args below meth c s₁ B0 hml hv
  obtain ⟨rfl, hP, hK, hN⟩ := hv
  have hx := B0.exec
  have hb := B0.bytes
  have hr := B0.returns
  have hts := atoms_spec (ws := wsX2_cast) B0.pre
  have hown : s.vm.findClass RX2 = some m.cls := findClass_of_methodNamed B0.named
  have hlocks := B0.notSynchronized
  have hl := lv_entry ([.int x, .int h]) (n := 2) (Nat.le_of_ble_eq_true rfl)
  rw [lg_entry_eq]
  generalize (lg_sl ([.int x, .int h]) ++ List.replicate (2 - (lg_sl ([.int x, .int h])).length) Slot.unset).toArray = ls at hl ⊢
  have hl : lv_has ls 2 [(0, .int x), (1, .int h)] := hl
  refine lv_iload_n hx hb dX2_cast_0 rfl (lv_at hl 1 rfl) ?_
  refine lv_bipush (v := 7) hx hb dX2_cast_1 (by decide) ?_
  refine lv_icmp_lt (tgt := 12) hx hb dX2_cast_3 (by decide) (fun c_1 => ?_) (fun c_1 => ?_)
  · refine lv_iconst (v := 0) hx hb dX2_cast_12 (by decide) ?_
    exact W.iret (v := 0) hx hb hr (fun t ht hW => ⟨_, rfl, (cast_lo c_1), ht⟩) (fun q hq => absurd hq List.not_mem_nil) dX2_cast_13
  · refine lv_iload_n hx hb dX2_cast_6 rfl (lv_at hl 1 rfl) ?_
    refine lv_bipush (v := 17) hx hb dX2_cast_7 (by decide) ?_
    refine lv_icmp_le (tgt := 14) hx hb dX2_cast_9 (by decide) (fun c_2 => ?_) (fun c_2 => ?_)
    · refine lv_iload_n hx hb dX2_cast_14 rfl (lv_at hl 0 rfl) ?_
      refine lv_iload_n hx hb dX2_cast_15 rfl (lv_at hl 1 rfl) ?_
      refine lv_bipush (v := 12) hx hb dX2_cast_16 (by decide) ?_
      refine lv_icmp_le (tgt := 28) hx hb dX2_cast_18 (by decide) (fun c_3 => ?_) (fun c_3 => ?_)
      · refine lv_bipush (v := 12) hx hb dX2_cast_28 (by decide) ?_
        refine lv_iload_n hx hb dX2_cast_30 rfl (lv_at hl 1 rfl) ?_
        refine lv_isub hx hb dX2_cast_31 ?_
        refine lv_imul hx hb dX2_cast_32 ?_
        refine lv_iconst (v := 2) hx hb dX2_cast_33 (by decide) ?_
        refine lv_idiv hx hb dX2_cast_34 (by decide) ?_
        exact W.iret (v := (x * (12 - h)) / 2) hx hb hr (fun t ht hW => ⟨_, rfl, (cast_a c_1 c_2 c_3), ht⟩) (fun q hq => absurd hq List.not_mem_nil) dX2_cast_35
      · refine lv_iload_n hx hb dX2_cast_21 rfl (lv_at hl 1 rfl) ?_
        refine lv_bipush (v := 12) hx hb dX2_cast_22 (by decide) ?_
        refine lv_isub hx hb dX2_cast_24 ?_
        refine lv_goto (tgt := 32) hx hb dX2_cast_25 (by decide) ?_
        refine lv_imul hx hb dX2_cast_32 ?_
        refine lv_iconst (v := 2) hx hb dX2_cast_33 (by decide) ?_
        refine lv_idiv hx hb dX2_cast_34 (by decide) ?_
        exact W.iret (v := (x * (h - 12)) / 2) hx hb hr (fun t ht hW => ⟨_, rfl, (cast_b c_1 c_2 c_3), ht⟩) (fun q hq => absurd hq List.not_mem_nil) dX2_cast_35
    · refine lv_iconst (v := 0) hx hb dX2_cast_12 (by decide) ?_
      exact W.iret (v := 0) hx hb hr (fun t ht hW => ⟨_, rfl, (cast_hi c_1 c_2), ht⟩) (fun q hq => absurd hq List.not_mem_nil) dX2_cast_13
theorem in_X2_hatOn_X2 : ∀ w ∈ wsX20, w ∈ wsX2_hatOn := by decide +kernel
set_option maxHeartbeats 4000000 in
set_option maxRecDepth 100000 in
/-- the height of the hat that is worn -/
theorem c_X2_hatOn (l : Launch) (D : va_G) (cs : Cs) (M : Mf) {B : Nat} {σ : PS} (hI : InvS B σ) (i : Nat) (hi : i < sK σ) : Met l yX2_hatOn wsX2_hatOn ({ frames := 0, cells := 0, slots := 0, locals := 0 }) (va_Pc [.ref M.1, .int (nI i)] (RBp D cs (va_P D vwCl (simW cs M σ)))) (vp_Si (fun r : Int32 => r = wornH σ i)) 0 0 (fun _ => False) := by
  refine Met.ofW (cc := cX2_hatOn) (maxL := 2) (ret := (some .int)) (by decide) rfl ?_
  intro p e s m args below meth c s₁ B0 hml hv
  obtain ⟨rfl, hP, hK, hN⟩ := hv
  have hx := B0.exec
  have hb := B0.bytes
  have hr := B0.returns
  have hts := atoms_spec (ws := wsX2_hatOn) B0.pre
  have hown : s.vm.findClass RX2 = some m.cls := findClass_of_methodNamed B0.named
  have hlocks := B0.notSynchronized
  have hl := lv_entry ([.ref M.1, .int (nI i)]) (n := 2) (Nat.le_of_ble_eq_true rfl)
  rw [lg_entry_eq]
  generalize (lg_sl ([.ref M.1, .int (nI i)]) ++ List.replicate (2 - (lg_sl ([.ref M.1, .int (nI i)])).length) Slot.unset).toArray = ls at hl ⊢
  have hl : lv_has ls 2 [(0, .ref M.1), (1, .int (nI i))] := hl
  refine lv_aload_n hx hb dX2_hatOn_0 rfl (lv_at hl 0 rfl) ?_
  refine va_get (D := D) (ci := 3) (v := .ref M.2.1) (C := RX2) (T := TX2) (N := 4) hx hb hts in_X2_hatOn_X2 hown hK hP 0 rfl rfl 3 (by decide) (hts (.fieldLink RX2 9 "ShadowSocietyLaw$Sim" "members" "[[I") (List.mem_of_getElem? (i := 1) (by decide +kernel))) (fun _ h9 => h9) rfl dX2_hatOn_1 ?_
  refine lv_iload_n hx hb dX2_hatOn_4 rfl (lv_at hl 1 rfl) ?_
  refine va_aldA hx hb hK hP 1 2 rfl rfl (vp_in_nI hi (by have := hI.1; omega)) (elm_at hi hI.1) dX2_hatOn_5 ?_
  refine lv_iconst (v := 4) hx hb dX2_hatOn_6 (by decide) ?_
  refine va_iald hx hb hK hP (2 + i) 0 (simW_at hi) rfl (by unfold vp_in; decide) dX2_hatOn_7 ?_
  rw [show rowF σ i (4 : Int32).toNatClampNeg = sWe σ i from rfl]
  refine lv_if_ge (tgt := 15) hx hb dX2_hatOn_8 (by decide) (fun c_1 => ?_) (fun c_1 => ?_)
  · refine lv_aload_n hx hb dX2_hatOn_15 rfl (lv_at hl 0 rfl) ?_
    refine va_get (D := D) (ci := 3) (v := .ref M.2.1) (C := RX2) (T := TX2) (N := 4) hx hb hts in_X2_hatOn_X2 hown hK hP 0 rfl rfl 3 (by decide) (hts (.fieldLink RX2 9 "ShadowSocietyLaw$Sim" "members" "[[I") (List.mem_of_getElem? (i := 1) (by decide +kernel))) (fun _ h9 => h9) rfl dX2_hatOn_16 ?_
    refine lv_aload_n hx hb dX2_hatOn_19 rfl (lv_at hl 0 rfl) ?_
    refine va_get (D := D) (ci := 3) (v := .ref M.2.1) (C := RX2) (T := TX2) (N := 4) hx hb hts in_X2_hatOn_X2 hown hK hP 0 rfl rfl 3 (by decide) (hts (.fieldLink RX2 9 "ShadowSocietyLaw$Sim" "members" "[[I") (List.mem_of_getElem? (i := 1) (by decide +kernel))) (fun _ h9 => h9) rfl dX2_hatOn_20 ?_
    refine lv_iload_n hx hb dX2_hatOn_23 rfl (lv_at hl 1 rfl) ?_
    refine va_aldA hx hb hK hP 1 2 rfl rfl (vp_in_nI hi (by have := hI.1; omega)) (elm_at hi hI.1) dX2_hatOn_24 ?_
    refine lv_iconst (v := 4) hx hb dX2_hatOn_25 (by decide) ?_
    refine va_iald hx hb hK hP (2 + i) 0 (simW_at hi) rfl (by unfold vp_in; decide) dX2_hatOn_26 ?_
    rw [show rowF σ i (4 : Int32).toNatClampNeg = sWe σ i from rfl]
    obtain ⟨j, hj, hw⟩ := we_ge hI hi c_1
    refine W.eq (g2 := F0 m 27 ls [.int (nI j), .ref M.2.1]) (by rw [hw]) ?_
    refine va_aldA hx hb hK hP 1 2 rfl rfl (vp_in_nI hj (by have := hI.1; omega)) (elm_at hj hI.1) dX2_hatOn_27 ?_
    refine lv_iconst (v := 1) hx hb dX2_hatOn_28 (by decide) ?_
    refine va_iald hx hb hK hP (2 + j) 0 (simW_at hj) rfl (by unfold vp_in; decide) dX2_hatOn_29 ?_
    rw [show rowF σ j (1 : Int32).toNatClampNeg = sHa σ j from rfl]
    exact W.iret (v := sHa σ j) hx hb hr (fun t ht hW => ⟨_, rfl, (wornH_s hI hj hw).symm, ht⟩) (fun q hq => absurd hq List.not_mem_nil) dX2_hatOn_30
  · refine lv_iconst (v := 0) hx hb dX2_hatOn_11 (by decide) ?_
    refine lv_goto (tgt := 30) hx hb dX2_hatOn_12 (by decide) ?_
    exact W.iret (v := 0) hx hb hr (fun t ht hW => ⟨_, rfl, (wornH_n (we_lt hI hi c_1)).symm, ht⟩) (fun q hq => absurd hq List.not_mem_nil) dX2_hatOn_30
theorem in_X2_shadow_X2 : ∀ w ∈ wsX20, w ∈ wsX2_shadow := by decide +kernel
set_option maxHeartbeats 4000000 in
set_option maxRecDepth 100000 in
/-- the shadow now -/
theorem c_X2_shadow (l : Launch) (D : va_G) (cs : Cs) (M : Mf) {B : Nat} {σ : PS} (hI : InvS B σ) (i : Nat) (hi : i < sK σ) : Met l yX2_shadow wsX2_shadow ({ frames := 1, cells := 0, slots := 0, locals := 21 }) (va_Pc [.ref M.1, .int (nI i)] (RBp D cs (va_P D vwCl (simW cs M σ)))) (vp_Si (fun r : Int32 => r = shadS σ i (dayOf σ))) 0 0 (fun _ => False) := by
  refine Met.ofW (cc := cX2_shadow) (maxL := 2) (ret := (some .int)) (by decide) rfl ?_
  intro p e s m args below meth c s₁ B0 hml hv
  obtain ⟨rfl, hP, hK, hN⟩ := hv
  have hx := B0.exec
  have hb := B0.bytes
  have hr := B0.returns
  have hts := atoms_spec (ws := wsX2_shadow) B0.pre
  have hown : s.vm.findClass RX2 = some m.cls := findClass_of_methodNamed B0.named
  have hlocks := B0.notSynchronized
  have hl := lv_entry ([.ref M.1, .int (nI i)]) (n := 2) (Nat.le_of_ble_eq_true rfl)
  rw [lg_entry_eq]
  generalize (lg_sl ([.ref M.1, .int (nI i)]) ++ List.replicate (2 - (lg_sl ([.ref M.1, .int (nI i)])).length) Slot.unset).toArray = ls at hl ⊢
  have hl : lv_has ls 2 [(0, .ref M.1), (1, .int (nI i))] := hl
  refine lv_aload_n hx hb dX2_shadow_0 rfl (lv_at hl 0 rfl) ?_
  refine va_get (D := D) (ci := 3) (v := .ref M.2.1) (C := RX2) (T := TX2) (N := 4) hx hb hts in_X2_shadow_X2 hown hK hP 0 rfl rfl 3 (by decide) (hts (.fieldLink RX2 9 "ShadowSocietyLaw$Sim" "members" "[[I") (List.mem_of_getElem? (i := 1) (by decide +kernel))) (fun _ h9 => h9) rfl dX2_shadow_1 ?_
  refine lv_iload_n hx hb dX2_shadow_4 rfl (lv_at hl 1 rfl) ?_
  refine va_aldA hx hb hK hP 1 2 rfl rfl (vp_in_nI hi (by have := hI.1; omega)) (elm_at hi hI.1) dX2_shadow_5 ?_
  refine lv_iconst (v := 0) hx hb dX2_shadow_6 (by decide) ?_
  refine va_iald hx hb hK hP (2 + i) 0 (simW_at hi) rfl (by unfold vp_in; decide) dX2_shadow_7 ?_
  rw [show rowF σ i (0 : Int32).toNatClampNeg = sHe σ i from rfl]
  refine lv_aload_n hx hb dX2_shadow_8 rfl (lv_at hl 0 rfl) ?_
  refine lv_iload_n hx hb dX2_shadow_9 rfl (lv_at hl 1 rfl) ?_
  refine vp_callSi (va_Run.run (va_runV (As := [.int (nI i)]) (rest := [.int (sHe σ i)]) ⟨hx, hb, hml, hown, hts⟩ (c_X2_hatOn l D cs M hI i hi) (cwV 1 hts gX2_shadow_X2_hatOn rfl rfl rfl (by decide +kernel) ⟨Nat.le_of_ble_eq_true rfl, Nat.le_of_ble_eq_true rfl⟩) (rb_V hK hN hP (va_recv hK hP (ci := 3) (q0 := 0) rfl rfl)) rfl rfl hl.1 rfl (lv_room (Nat.le_of_ble_eq_true rfl)) dX2_shadow_10 ⟨Nat.le_of_ble_eq_true rfl, Nat.le_of_ble_eq_true rfl⟩)) (fun r_1 hr_1 => ?_)
  rw [hr_1]
  refine lv_iadd hx hb dX2_shadow_13 ?_
  refine lv_aload_n hx hb dX2_shadow_14 rfl (lv_at hl 0 rfl) ?_
  refine va_get (D := D) (ci := 3) (v := .int (sHr σ)) (C := RX2) (T := TX2) (N := 4) hx hb hts in_X2_shadow_X2 hown hK hP 0 rfl rfl 0 (by decide) (hts (.fieldLink RX2 16 "ShadowSocietyLaw$Sim" "hour" "I") (List.mem_of_getElem? (i := 2) (by decide +kernel))) (fun _ h9 => h9) rfl dX2_shadow_15 ?_
  refine lv_bipush (v := 24) hx hb dX2_shadow_18 (by decide) ?_
  refine lv_irem hx hb dX2_shadow_20 (by decide) ?_
  refine vp_callSi (va_Run.run (va_runS (As := [.int ((sHe σ i) + (wornH σ i)), .int ((sHr σ) - (sHr σ) / 24 * 24)]) (rest := []) ⟨hx, hb, hml, hown, hts⟩ (c_X2_cast l D cs ((sHe σ i) + (wornH σ i)) ((sHr σ) - (sHr σ) / 24 * 24)) (va_cwS 2 hts gX2_shadow_X2_cast rfl rfl rfl (by decide +kernel) ⟨Nat.le_of_ble_eq_true rfl, Nat.le_of_ble_eq_true rfl⟩) (rb_S hK hN trivial) rfl rfl hl.1 rfl (lv_room (Nat.le_of_ble_eq_true rfl)) dX2_shadow_21 ⟨Nat.le_of_ble_eq_true rfl, Nat.le_of_ble_eq_true rfl⟩)) (fun r_2 hr_2 => ?_)
  rw [hr_2]
  refine lv_iconst (v := 3) hx hb dX2_shadow_24 (by decide) ?_
  refine lv_aload_n hx hb dX2_shadow_25 rfl (lv_at hl 0 rfl) ?_
  refine va_get (D := D) (ci := 3) (v := .ref M.2.1) (C := RX2) (T := TX2) (N := 4) hx hb hts in_X2_shadow_X2 hown hK hP 0 rfl rfl 3 (by decide) (hts (.fieldLink RX2 9 "ShadowSocietyLaw$Sim" "members" "[[I") (List.mem_of_getElem? (i := 1) (by decide +kernel))) (fun _ h9 => h9) rfl dX2_shadow_26 ?_
  refine lv_iload_n hx hb dX2_shadow_29 rfl (lv_at hl 1 rfl) ?_
  refine va_aldA hx hb hK hP 1 2 rfl rfl (vp_in_nI hi (by have := hI.1; omega)) (elm_at hi hI.1) dX2_shadow_30 ?_
  refine lv_iconst (v := 3) hx hb dX2_shadow_31 (by decide) ?_
  refine va_iald hx hb hK hP (2 + i) 0 (simW_at hi) rfl (by unfold vp_in; decide) dX2_shadow_32 ?_
  rw [show rowF σ i (3 : Int32).toNatClampNeg = sLa σ i from rfl]
  refine lv_imul hx hb dX2_shadow_33 ?_
  refine lv_iadd hx hb dX2_shadow_34 ?_
  exact W.iret (v := (natSh ((sHe σ i) + (wornH σ i)) ((sHr σ) - (sHr σ) / 24 * 24)) + (3 * (sLa σ i))) hx hb hr (fun t ht hW => ⟨_, rfl, rfl, ht⟩) (fun q hq => absurd hq List.not_mem_nil) dX2_shadow_35
theorem in_X2_honest_X2 : ∀ w ∈ wsX20, w ∈ wsX2_honest := by decide +kernel
set_option maxHeartbeats 4000000 in
set_option maxRecDepth 100000 in
/-- the honest shadow -/
theorem c_X2_honest (l : Launch) (D : va_G) (cs : Cs) (M : Mf) {B : Nat} {σ : PS} (hI : InvS B σ) (i : Nat) (hi : i < sK σ) (h : Int32) : Met l yX2_honest wsX2_honest ({ frames := 1, cells := 0, slots := 0, locals := 21 }) (va_Pc [.ref M.1, .int (nI i), .int h] (RBp D cs (va_P D vwCl (simW cs M σ)))) (vp_Si (fun r : Int32 => r = honsS σ i h)) 0 0 (fun _ => False) := by
  refine Met.ofW (cc := cX2_honest) (maxL := 3) (ret := (some .int)) (by decide) rfl ?_
  intro p e s m args below meth c s₁ B0 hml hv
  obtain ⟨rfl, hP, hK, hN⟩ := hv
  have hx := B0.exec
  have hb := B0.bytes
  have hr := B0.returns
  have hts := atoms_spec (ws := wsX2_honest) B0.pre
  have hown : s.vm.findClass RX2 = some m.cls := findClass_of_methodNamed B0.named
  have hlocks := B0.notSynchronized
  have hl := lv_entry ([.ref M.1, .int (nI i), .int h]) (n := 3) (Nat.le_of_ble_eq_true rfl)
  rw [lg_entry_eq]
  generalize (lg_sl ([.ref M.1, .int (nI i), .int h]) ++ List.replicate (3 - (lg_sl ([.ref M.1, .int (nI i), .int h])).length) Slot.unset).toArray = ls at hl ⊢
  have hl : lv_has ls 3 [(0, .ref M.1), (1, .int (nI i)), (2, .int h)] := hl
  refine lv_aload_n hx hb dX2_honest_0 rfl (lv_at hl 0 rfl) ?_
  refine va_get (D := D) (ci := 3) (v := .ref M.2.1) (C := RX2) (T := TX2) (N := 4) hx hb hts in_X2_honest_X2 hown hK hP 0 rfl rfl 3 (by decide) (hts (.fieldLink RX2 9 "ShadowSocietyLaw$Sim" "members" "[[I") (List.mem_of_getElem? (i := 1) (by decide +kernel))) (fun _ h9 => h9) rfl dX2_honest_1 ?_
  refine lv_iload_n hx hb dX2_honest_4 rfl (lv_at hl 1 rfl) ?_
  refine va_aldA hx hb hK hP 1 2 rfl rfl (vp_in_nI hi (by have := hI.1; omega)) (elm_at hi hI.1) dX2_honest_5 ?_
  refine lv_iconst (v := 0) hx hb dX2_honest_6 (by decide) ?_
  refine va_iald hx hb hK hP (2 + i) 0 (simW_at hi) rfl (by unfold vp_in; decide) dX2_honest_7 ?_
  rw [show rowF σ i (0 : Int32).toNatClampNeg = sHe σ i from rfl]
  refine lv_aload_n hx hb dX2_honest_8 rfl (lv_at hl 0 rfl) ?_
  refine va_get (D := D) (ci := 3) (v := .ref M.2.1) (C := RX2) (T := TX2) (N := 4) hx hb hts in_X2_honest_X2 hown hK hP 0 rfl rfl 3 (by decide) (hts (.fieldLink RX2 9 "ShadowSocietyLaw$Sim" "members" "[[I") (List.mem_of_getElem? (i := 1) (by decide +kernel))) (fun _ h9 => h9) rfl dX2_honest_9 ?_
  refine lv_iload_n hx hb dX2_honest_12 rfl (lv_at hl 1 rfl) ?_
  refine va_aldA hx hb hK hP 1 2 rfl rfl (vp_in_nI hi (by have := hI.1; omega)) (elm_at hi hI.1) dX2_honest_13 ?_
  refine lv_iconst (v := 1) hx hb dX2_honest_14 (by decide) ?_
  refine va_iald hx hb hK hP (2 + i) 0 (simW_at hi) rfl (by unfold vp_in; decide) dX2_honest_15 ?_
  rw [show rowF σ i (1 : Int32).toNatClampNeg = sHa σ i from rfl]
  refine lv_iadd hx hb dX2_honest_16 ?_
  refine lv_iload_n hx hb dX2_honest_17 rfl (lv_at hl 2 rfl) ?_
  refine vp_callSi (va_Run.run (va_runS (As := [.int ((sHe σ i) + (sHa σ i)), .int h]) (rest := []) ⟨hx, hb, hml, hown, hts⟩ (c_X2_cast l D cs ((sHe σ i) + (sHa σ i)) h) (va_cwS 2 hts gX2_honest_X2_cast rfl rfl rfl (by decide +kernel) ⟨Nat.le_of_ble_eq_true rfl, Nat.le_of_ble_eq_true rfl⟩) (rb_S hK hN trivial) rfl rfl hl.1 rfl (lv_room (Nat.le_of_ble_eq_true rfl)) dX2_honest_18 ⟨Nat.le_of_ble_eq_true rfl, Nat.le_of_ble_eq_true rfl⟩)) (fun r_1 hr_1 => ?_)
  rw [hr_1]
  exact W.iret (v := natSh ((sHe σ i) + (sHa σ i)) h) hx hb hr (fun t ht hW => ⟨_, rfl, rfl, ht⟩) (fun q hq => absurd hq List.not_mem_nil) dX2_honest_21
theorem in_X2_isHonest_X2 : ∀ w ∈ wsX20, w ∈ wsX2_isHonest := by decide +kernel
set_option maxHeartbeats 4000000 in
set_option maxRecDepth 100000 in
/-- is the certificate honest -/
theorem c_X2_isHonest (l : Launch) (D : va_G) (cs : Cs) (M : Mf) {B : Nat} {σ : PS} (hI : InvS B σ) (i : Nat) (hi : i < sK σ) : Met l yX2_isHonest wsX2_isHonest ({ frames := 2, cells := 0, slots := 0, locals := 43 }) (va_Pc [.ref M.1, .int (nI i)] (RBp D cs (va_P D vwCl (simW cs M σ)))) (vp_Si (fun r : Int32 => r = b01 (truC σ i))) 0 0 (fun _ => False) := by
  refine Met.ofW (cc := cX2_isHonest) (maxL := 2) (ret := (some .boolean)) (by decide) rfl ?_
  intro p e s m args below meth c s₁ B0 hml hv
  obtain ⟨rfl, hP, hK, hN⟩ := hv
  have hx := B0.exec
  have hb := B0.bytes
  have hr := B0.returns
  have hts := atoms_spec (ws := wsX2_isHonest) B0.pre
  have hown : s.vm.findClass RX2 = some m.cls := findClass_of_methodNamed B0.named
  have hlocks := B0.notSynchronized
  have hl := lv_entry ([.ref M.1, .int (nI i)]) (n := 2) (Nat.le_of_ble_eq_true rfl)
  rw [lg_entry_eq]
  generalize (lg_sl ([.ref M.1, .int (nI i)]) ++ List.replicate (2 - (lg_sl ([.ref M.1, .int (nI i)])).length) Slot.unset).toArray = ls at hl ⊢
  have hl : lv_has ls 2 [(0, .ref M.1), (1, .int (nI i))] := hl
  refine lv_aload_n hx hb dX2_isHonest_0 rfl (lv_at hl 0 rfl) ?_
  refine va_get (D := D) (ci := 3) (v := .ref M.2.1) (C := RX2) (T := TX2) (N := 4) hx hb hts in_X2_isHonest_X2 hown hK hP 0 rfl rfl 3 (by decide) (hts (.fieldLink RX2 9 "ShadowSocietyLaw$Sim" "members" "[[I") (List.mem_of_getElem? (i := 1) (by decide +kernel))) (fun _ h9 => h9) rfl dX2_isHonest_1 ?_
  refine lv_iload_n hx hb dX2_isHonest_4 rfl (lv_at hl 1 rfl) ?_
  refine va_aldA hx hb hK hP 1 2 rfl rfl (vp_in_nI hi (by have := hI.1; omega)) (elm_at hi hI.1) dX2_isHonest_5 ?_
  refine lv_iconst (v := 5) hx hb dX2_isHonest_6 (by decide) ?_
  refine va_iald hx hb hK hP (2 + i) 0 (simW_at hi) rfl (by unfold vp_in; decide) dX2_isHonest_7 ?_
  rw [show rowF σ i (5 : Int32).toNatClampNeg = sCe σ i from rfl]
  refine lv_aload_n hx hb dX2_isHonest_8 rfl (lv_at hl 0 rfl) ?_
  refine lv_iload_n hx hb dX2_isHonest_9 rfl (lv_at hl 1 rfl) ?_
  refine lv_aload_n hx hb dX2_isHonest_10 rfl (lv_at hl 0 rfl) ?_
  refine va_get (D := D) (ci := 3) (v := .ref M.2.1) (C := RX2) (T := TX2) (N := 4) hx hb hts in_X2_isHonest_X2 hown hK hP 0 rfl rfl 3 (by decide) (hts (.fieldLink RX2 9 "ShadowSocietyLaw$Sim" "members" "[[I") (List.mem_of_getElem? (i := 1) (by decide +kernel))) (fun _ h9 => h9) rfl dX2_isHonest_11 ?_
  refine lv_iload_n hx hb dX2_isHonest_14 rfl (lv_at hl 1 rfl) ?_
  refine va_aldA hx hb hK hP 1 2 rfl rfl (vp_in_nI hi (by have := hI.1; omega)) (elm_at hi hI.1) dX2_isHonest_15 ?_
  refine lv_bipush (v := 6) hx hb dX2_isHonest_16 (by decide) ?_
  refine va_iald hx hb hK hP (2 + i) 0 (simW_at hi) rfl (by unfold vp_in; decide) dX2_isHonest_18 ?_
  rw [show rowF σ i (6 : Int32).toNatClampNeg = sAt σ i from rfl]
  refine vp_callSi (va_Run.run (va_runV (As := [.int (nI i), .int (sAt σ i)]) (rest := [.int (sCe σ i)]) ⟨hx, hb, hml, hown, hts⟩ (c_X2_honest l D cs M hI i hi (sAt σ i)) (cwV 2 hts gX2_isHonest_X2_honest rfl rfl rfl (by decide +kernel) ⟨Nat.le_of_ble_eq_true rfl, Nat.le_of_ble_eq_true rfl⟩) (rb_V hK hN hP (va_recv hK hP (ci := 3) (q0 := 0) rfl rfl)) rfl rfl hl.1 rfl (lv_room (Nat.le_of_ble_eq_true rfl)) dX2_isHonest_19 ⟨Nat.le_of_ble_eq_true rfl, Nat.le_of_ble_eq_true rfl⟩)) (fun r_1 hr_1 => ?_)
  rw [hr_1]
  refine lv_icmp_ne (tgt := 29) hx hb dX2_isHonest_22 (by decide) (fun c_2 => ?_) (fun c_2 => ?_)
  · refine lv_iconst (v := 0) hx hb dX2_isHonest_29 (by decide) ?_
    exact W.zret (ty := .boolean) (v := 0) hx hb hr rfl (fun t ht hW => ⟨_, rfl, (b01_f c_2).symm, ht⟩) (fun q hq => absurd hq List.not_mem_nil) dX2_isHonest_30
  · refine lv_iconst (v := 1) hx hb dX2_isHonest_25 (by decide) ?_
    refine lv_goto (tgt := 30) hx hb dX2_isHonest_26 (by decide) ?_
    exact W.zret (ty := .boolean) (v := 1) hx hb hr rfl (fun t ht hW => ⟨_, rfl, (b01_t c_2).symm, ht⟩) (fun q hq => absurd hq List.not_mem_nil) dX2_isHonest_30
theorem in_X2_wearer_X2 : ∀ w ∈ wsX20, w ∈ wsX2_wearer := by decide +kernel
set_option maxHeartbeats 4000000 in
set_option maxRecDepth 100000 in
/-- who wears a hat -/
theorem c_X2_wearer (l : Launch) (D : va_G) (cs : Cs) (M : Mf) {B : Nat} {σ : PS} (hI : InvS B σ) (v : Int32) : Met l yX2_wearer wsX2_wearer ({ frames := 0, cells := 0, slots := 0, locals := 0 }) (va_Pc [.ref M.1, .int v] (RBp D cs (va_P D vwCl (simW cs M σ)))) (vp_Si (fun r : Int32 => r = wrS (sWe σ) v (sK σ))) 0 0 (fun _ => False) := by
  refine Met.ofW (cc := cX2_wearer) (maxL := 3) (ret := (some .int)) (by decide) rfl ?_
  intro p e s m args below meth c s₁ B0 hml hv
  obtain ⟨rfl, hP, hK, hN⟩ := hv
  have hx := B0.exec
  have hb := B0.bytes
  have hr := B0.returns
  have hts := atoms_spec (ws := wsX2_wearer) B0.pre
  have hown : s.vm.findClass RX2 = some m.cls := findClass_of_methodNamed B0.named
  have hlocks := B0.notSynchronized
  have hl := lv_entry ([.ref M.1, .int v]) (n := 3) (Nat.le_of_ble_eq_true rfl)
  rw [lg_entry_eq]
  generalize (lg_sl ([.ref M.1, .int v]) ++ List.replicate (3 - (lg_sl ([.ref M.1, .int v])).length) Slot.unset).toArray = ls at hl ⊢
  have hl : lv_has ls 3 [(0, .ref M.1), (1, .int v)] := hl
  refine lv_iconst (v := 0) hx hb dX2_wearer_0 (by decide) ?_
  refine lv_istore_n (lv' := [(2, .int 0), (0, .ref M.1), (1, .int v)]) hx hb dX2_wearer_1 rfl hl (by decide) rfl (fun ls hl => ?_)
  refine lv_for (sK σ) (fun ls => F0 m 2 ls []) (fun n9 => [(0, .ref M.1), (1, .int v), (2, .int (nI n9))]) (fun n => ∀ j, j < n → ¬ sWe σ j = v) (show lv_has ls 3 [(0, .ref M.1), (1, .int v), (2, .int (nI 0))] from lv_sub hl [1, 2, 0] rfl) (lt_0) (fun n9 ls hn9 hj9 hl K9 => ?_) (fun ls hj9 hl => ?_)
  · have hl : lv_has ls 3 [(0, .ref M.1), (1, .int v), (2, .int (nI n9))] := hl
    refine lv_iload_n hx hb dX2_wearer_2 rfl (lv_at hl 2 rfl) ?_
    refine lv_aload_n hx hb dX2_wearer_3 rfl (lv_at hl 0 rfl) ?_
    refine va_get (D := D) (ci := 3) (v := .ref M.2.1) (C := RX2) (T := TX2) (N := 4) hx hb hts in_X2_wearer_X2 hown hK hP 0 rfl rfl 3 (by decide) (hts (.fieldLink RX2 9 "ShadowSocietyLaw$Sim" "members" "[[I") (List.mem_of_getElem? (i := 1) (by decide +kernel))) (fun _ h9 => h9) rfl dX2_wearer_4 ?_
    refine va_alen hx hb hK hP 1 2 rfl rfl (v := nI (sK σ)) rfl dX2_wearer_7 ?_
    refine lv_icmp_ge (tgt := 31) hx hb dX2_wearer_8 (by decide) (fun c9 => absurd c9 (nI_ge hn9 (by have := hI.1; omega))) (fun _ => ?_)
    refine lv_aload_n hx hb dX2_wearer_11 rfl (lv_at hl 0 rfl) ?_
    refine va_get (D := D) (ci := 3) (v := .ref M.2.1) (C := RX2) (T := TX2) (N := 4) hx hb hts in_X2_wearer_X2 hown hK hP 0 rfl rfl 3 (by decide) (hts (.fieldLink RX2 9 "ShadowSocietyLaw$Sim" "members" "[[I") (List.mem_of_getElem? (i := 1) (by decide +kernel))) (fun _ h9 => h9) rfl dX2_wearer_12 ?_
    refine lv_iload_n hx hb dX2_wearer_15 rfl (lv_at hl 2 rfl) ?_
    refine va_aldA hx hb hK hP 1 2 rfl rfl (vp_in_nI hn9 (by have := hI.1; omega)) (elm_at hn9 hI.1) dX2_wearer_16 ?_
    refine lv_iconst (v := 4) hx hb dX2_wearer_17 (by decide) ?_
    refine va_iald hx hb hK hP (2 + n9) 0 (simW_at hn9) rfl (by unfold vp_in; decide) dX2_wearer_18 ?_
    rw [show rowF σ n9 (4 : Int32).toNatClampNeg = sWe σ n9 from rfl]
    refine lv_iload_n hx hb dX2_wearer_19 rfl (lv_at hl 1 rfl) ?_
    refine lv_icmp_ne (tgt := 25) hx hb dX2_wearer_20 (by decide) (fun c_1 => ?_) (fun c_1 => ?_)
    · refine lv_iinc (v := nI (n9 + 1)) (lv' := [(2, .int (nI (n9 + 1))), (0, .ref M.1), (1, .int v)]) hx hb dX2_wearer_25 hl (k := 2) rfl (nI_add _ 1) (by decide) rfl (fun ls hl => ?_)
      refine lv_goto (tgt := 2) hx hb dX2_wearer_28 (by decide) ?_
      refine K9 ls (lt_s hj9 c_1) ?_
      show lv_has ls 3 [(0, .ref M.1), (1, .int v), (2, .int (nI (n9 + 1)))]
      exact lv_sub hl [1, 2, 0] rfl
    · refine lv_iload_n hx hb dX2_wearer_23 rfl (lv_at hl 2 rfl) ?_
      exact W.iret (v := nI n9) hx hb hr (fun t ht hW => ⟨_, rfl, (wrS_some hn9 (by have := hI.1; omega) hj9 c_1).symm, ht⟩) (fun q hq => absurd hq List.not_mem_nil) dX2_wearer_24
  · have hl : lv_has ls 3 [(0, .ref M.1), (1, .int v), (2, .int (nI (sK σ)))] := hl
    refine lv_iload_n hx hb dX2_wearer_2 rfl (lv_at hl 2 rfl) ?_
    refine lv_aload_n hx hb dX2_wearer_3 rfl (lv_at hl 0 rfl) ?_
    refine va_get (D := D) (ci := 3) (v := .ref M.2.1) (C := RX2) (T := TX2) (N := 4) hx hb hts in_X2_wearer_X2 hown hK hP 0 rfl rfl 3 (by decide) (hts (.fieldLink RX2 9 "ShadowSocietyLaw$Sim" "members" "[[I") (List.mem_of_getElem? (i := 1) (by decide +kernel))) (fun _ h9 => h9) rfl dX2_wearer_4 ?_
    refine va_alen hx hb hK hP 1 2 rfl rfl (v := nI (sK σ)) rfl dX2_wearer_7 ?_
    refine lv_icmp_ge (tgt := 31) hx hb dX2_wearer_8 (by decide) (fun _ => ?_) (fun c9 => absurd (nI_le (Nat.le_refl _) (by have := hI.1; omega)) c9)
    refine lv_iconst (v := (-1)) hx hb dX2_wearer_31 (by decide) ?_
    exact W.iret (v := (-1)) hx hb hr (fun t ht hW => ⟨_, rfl, (wrS_none hj9).symm, ht⟩) (fun q hq => absurd hq List.not_mem_nil) dX2_wearer_32
theorem in_X2_canBorrow_X2 : ∀ w ∈ wsX20, w ∈ wsX2_canBorrow := by decide +kernel
set_option maxHeartbeats 4000000 in
set_option maxRecDepth 100000 in
/-- can a hat be borrowed -/
theorem c_X2_canBorrow (l : Launch) (D : va_G) (cs : Cs) (M : Mf) {B : Nat} {σ : PS} (hI : InvS B σ) (i : Nat) (hi : i < sK σ) (o : Nat) (ho : o < sK σ) : Met l yX2_canBorrow wsX2_canBorrow ({ frames := 0, cells := 0, slots := 0, locals := 0 }) (va_Pc [.ref M.1, .int (nI i), .int (nI o)] (RBp D cs (va_P D vwCl (simW cs M σ)))) (vp_Si (fun r : Int32 => r = b01 (canM σ i o))) 0 0 (fun _ => False) := by
  refine Met.ofW (cc := cX2_canBorrow) (maxL := 3) (ret := (some .boolean)) (by decide) rfl ?_
  intro p e s m args below meth c s₁ B0 hml hv
  obtain ⟨rfl, hP, hK, hN⟩ := hv
  have hx := B0.exec
  have hb := B0.bytes
  have hr := B0.returns
  have hts := atoms_spec (ws := wsX2_canBorrow) B0.pre
  have hown : s.vm.findClass RX2 = some m.cls := findClass_of_methodNamed B0.named
  have hlocks := B0.notSynchronized
  have hl := lv_entry ([.ref M.1, .int (nI i), .int (nI o)]) (n := 3) (Nat.le_of_ble_eq_true rfl)
  rw [lg_entry_eq]
  generalize (lg_sl ([.ref M.1, .int (nI i), .int (nI o)]) ++ List.replicate (3 - (lg_sl ([.ref M.1, .int (nI i), .int (nI o)])).length) Slot.unset).toArray = ls at hl ⊢
  have hl : lv_has ls 3 [(0, .ref M.1), (1, .int (nI i)), (2, .int (nI o))] := hl
  refine lv_iload_n hx hb dX2_canBorrow_0 rfl (lv_at hl 1 rfl) ?_
  refine lv_iload_n hx hb dX2_canBorrow_1 rfl (lv_at hl 2 rfl) ?_
  refine lv_icmp_eq (tgt := 55) hx hb dX2_canBorrow_2 (by decide) (fun c_1 => ?_) (fun c_1 => ?_)
  · refine lv_iconst (v := 0) hx hb dX2_canBorrow_55 (by decide) ?_
    exact W.zret (ty := .boolean) (v := 0) hx hb hr rfl (fun t ht hW => ⟨_, rfl, (b01_f (fun q => q.1 ((nI_eq (by have := hI.1; omega) (by have := hI.1; omega)).mp c_1))).symm, ht⟩) (fun q hq => absurd hq List.not_mem_nil) dX2_canBorrow_56
  · refine lv_aload_n hx hb dX2_canBorrow_5 rfl (lv_at hl 0 rfl) ?_
    refine va_get (D := D) (ci := 3) (v := .ref M.2.1) (C := RX2) (T := TX2) (N := 4) hx hb hts in_X2_canBorrow_X2 hown hK hP 0 rfl rfl 3 (by decide) (hts (.fieldLink RX2 9 "ShadowSocietyLaw$Sim" "members" "[[I") (List.mem_of_getElem? (i := 1) (by decide +kernel))) (fun _ h9 => h9) rfl dX2_canBorrow_6 ?_
    refine lv_iload_n hx hb dX2_canBorrow_9 rfl (lv_at hl 2 rfl) ?_
    refine va_aldA hx hb hK hP 1 2 rfl rfl (vp_in_nI ho (by have := hI.1; omega)) (elm_at ho hI.1) dX2_canBorrow_10 ?_
    refine lv_iconst (v := 1) hx hb dX2_canBorrow_11 (by decide) ?_
    refine va_iald hx hb hK hP (2 + o) 0 (simW_at ho) rfl (by unfold vp_in; decide) dX2_canBorrow_12 ?_
    rw [show rowF σ o (1 : Int32).toNatClampNeg = sHa σ o from rfl]
    refine lv_if_le (tgt := 55) hx hb dX2_canBorrow_13 (by decide) (fun c_2 => ?_) (fun c_2 => ?_)
    · refine lv_iconst (v := 0) hx hb dX2_canBorrow_55 (by decide) ?_
      exact W.zret (ty := .boolean) (v := 0) hx hb hr rfl (fun t ht hW => ⟨_, rfl, (b01_f (fun q => Int32.not_le.mpr q.2.1 c_2)).symm, ht⟩) (fun q hq => absurd hq List.not_mem_nil) dX2_canBorrow_56
    · refine lv_aload_n hx hb dX2_canBorrow_16 rfl (lv_at hl 0 rfl) ?_
      refine va_get (D := D) (ci := 3) (v := .ref M.2.1) (C := RX2) (T := TX2) (N := 4) hx hb hts in_X2_canBorrow_X2 hown hK hP 0 rfl rfl 3 (by decide) (hts (.fieldLink RX2 9 "ShadowSocietyLaw$Sim" "members" "[[I") (List.mem_of_getElem? (i := 1) (by decide +kernel))) (fun _ h9 => h9) rfl dX2_canBorrow_17 ?_
      refine lv_iload_n hx hb dX2_canBorrow_20 rfl (lv_at hl 2 rfl) ?_
      refine va_aldA hx hb hK hP 1 2 rfl rfl (vp_in_nI ho (by have := hI.1; omega)) (elm_at ho hI.1) dX2_canBorrow_21 ?_
      refine lv_iconst (v := 4) hx hb dX2_canBorrow_22 (by decide) ?_
      refine va_iald hx hb hK hP (2 + o) 0 (simW_at ho) rfl (by unfold vp_in; decide) dX2_canBorrow_23 ?_
      rw [show rowF σ o (4 : Int32).toNatClampNeg = sWe σ o from rfl]
      refine lv_iload_n hx hb dX2_canBorrow_24 rfl (lv_at hl 2 rfl) ?_
      refine lv_icmp_ne (tgt := 55) hx hb dX2_canBorrow_25 (by decide) (fun c_3 => ?_) (fun c_3 => ?_)
      · refine lv_iconst (v := 0) hx hb dX2_canBorrow_55 (by decide) ?_
        exact W.zret (ty := .boolean) (v := 0) hx hb hr rfl (fun t ht hW => ⟨_, rfl, (b01_f (fun q => c_3 q.2.2.1)).symm, ht⟩) (fun q hq => absurd hq List.not_mem_nil) dX2_canBorrow_56
      · refine lv_aload_n hx hb dX2_canBorrow_28 rfl (lv_at hl 0 rfl) ?_
        refine va_get (D := D) (ci := 3) (v := .ref M.2.1) (C := RX2) (T := TX2) (N := 4) hx hb hts in_X2_canBorrow_X2 hown hK hP 0 rfl rfl 3 (by decide) (hts (.fieldLink RX2 9 "ShadowSocietyLaw$Sim" "members" "[[I") (List.mem_of_getElem? (i := 1) (by decide +kernel))) (fun _ h9 => h9) rfl dX2_canBorrow_29 ?_
        refine lv_iload_n hx hb dX2_canBorrow_32 rfl (lv_at hl 1 rfl) ?_
        refine va_aldA hx hb hK hP 1 2 rfl rfl (vp_in_nI hi (by have := hI.1; omega)) (elm_at hi hI.1) dX2_canBorrow_33 ?_
        refine lv_iconst (v := 4) hx hb dX2_canBorrow_34 (by decide) ?_
        refine va_iald hx hb hK hP (2 + i) 0 (simW_at hi) rfl (by unfold vp_in; decide) dX2_canBorrow_35 ?_
        rw [show rowF σ i (4 : Int32).toNatClampNeg = sWe σ i from rfl]
        refine lv_if_lt (tgt := 51) hx hb dX2_canBorrow_36 (by decide) (fun c_4 => ?_) (fun c_4 => ?_)
        · refine lv_iconst (v := 1) hx hb dX2_canBorrow_51 (by decide) ?_
          refine lv_goto (tgt := 56) hx hb dX2_canBorrow_52 (by decide) ?_
          exact W.zret (ty := .boolean) (v := 1) hx hb hr rfl (fun t ht hW => ⟨_, rfl, (b01_t ⟨(fun q => c_1 (by rw [q])), Int32.not_le.mp c_2, c_3, Or.inl c_4⟩).symm, ht⟩) (fun q hq => absurd hq List.not_mem_nil) dX2_canBorrow_56
        · refine lv_aload_n hx hb dX2_canBorrow_39 rfl (lv_at hl 0 rfl) ?_
          refine va_get (D := D) (ci := 3) (v := .ref M.2.1) (C := RX2) (T := TX2) (N := 4) hx hb hts in_X2_canBorrow_X2 hown hK hP 0 rfl rfl 3 (by decide) (hts (.fieldLink RX2 9 "ShadowSocietyLaw$Sim" "members" "[[I") (List.mem_of_getElem? (i := 1) (by decide +kernel))) (fun _ h9 => h9) rfl dX2_canBorrow_40 ?_
          refine lv_iload_n hx hb dX2_canBorrow_43 rfl (lv_at hl 1 rfl) ?_
          refine va_aldA hx hb hK hP 1 2 rfl rfl (vp_in_nI hi (by have := hI.1; omega)) (elm_at hi hI.1) dX2_canBorrow_44 ?_
          refine lv_iconst (v := 4) hx hb dX2_canBorrow_45 (by decide) ?_
          refine va_iald hx hb hK hP (2 + i) 0 (simW_at hi) rfl (by unfold vp_in; decide) dX2_canBorrow_46 ?_
          rw [show rowF σ i (4 : Int32).toNatClampNeg = sWe σ i from rfl]
          refine lv_iload_n hx hb dX2_canBorrow_47 rfl (lv_at hl 1 rfl) ?_
          refine lv_icmp_ne (tgt := 55) hx hb dX2_canBorrow_48 (by decide) (fun c_5 => ?_) (fun c_5 => ?_)
          · refine lv_iconst (v := 0) hx hb dX2_canBorrow_55 (by decide) ?_
            exact W.zret (ty := .boolean) (v := 0) hx hb hr rfl (fun t ht hW => ⟨_, rfl, (b01_f (fun q => q.2.2.2.elim c_4 c_5)).symm, ht⟩) (fun q hq => absurd hq List.not_mem_nil) dX2_canBorrow_56
          · refine lv_iconst (v := 1) hx hb dX2_canBorrow_51 (by decide) ?_
            refine lv_goto (tgt := 56) hx hb dX2_canBorrow_52 (by decide) ?_
            exact W.zret (ty := .boolean) (v := 1) hx hb hr rfl (fun t ht hW => ⟨_, rfl, (b01_t ⟨(fun q => c_1 (by rw [q])), Int32.not_le.mp c_2, c_3, Or.inr c_5⟩).symm, ht⟩) (fun q hq => absurd hq List.not_mem_nil) dX2_canBorrow_56
