/-! THE MEMBERS: methods that only read (laid by wip/p35/gen/members.py) -/
set_option maxHeartbeats 4000000 in
set_option maxRecDepth 100000 in
/-- the natural shadow of a height at an hour of the day -/
theorem c_X1_naturalShadow (l : Launch) (D : va_G) (cs : Cs) (x h : Int32) : Met l yX1_naturalShadow wsX1_naturalShadow ({ frames := 1, cells := 0, slots := 0, locals := 13 }) (va_Pc [.int x, .int h] (RBp D cs (fun _ => True))) (vp_Si (fun r : Int32 => r = natSh x h)) 0 0 (fun _ => False) := by
  refine Met.ofW (cc := cX1_naturalShadow) (maxL := 3) (ret := (some .int)) (by decide) rfl ?_
  intro p e s m args below meth c s₁ B0 hml hv
  obtain ⟨rfl, hP, hK, hN⟩ := hv
  have hx := B0.exec
  have hb := B0.bytes
  have hr := B0.returns
  have hts := atoms_spec (ws := wsX1_naturalShadow) B0.pre
  have hown : s.vm.findClass RX1 = some m.cls := findClass_of_methodNamed B0.named
  have hlocks := B0.notSynchronized
  have hl := lv_entry ([.int x, .int h]) (n := 3) (Nat.le_of_ble_eq_true rfl)
  rw [lg_entry_eq]
  generalize (lg_sl ([.int x, .int h]) ++ List.replicate (3 - (lg_sl ([.int x, .int h])).length) Slot.unset).toArray = ls at hl ⊢
  have hl : lv_has ls 3 [(0, .int x), (1, .int h)] := hl
  refine lv_iload_n hx hb dX1_naturalShadow_0 rfl (lv_at hl 1 rfl) ?_
  refine lv_bipush (v := 7) hx hb dX1_naturalShadow_1 (by decide) ?_
  refine lv_icmp_lt (tgt := 12) hx hb dX1_naturalShadow_3 (by decide) (fun c_1 => ?_) (fun c_1 => ?_)
  · refine lv_iconst (v := 0) hx hb dX1_naturalShadow_12 (by decide) ?_
    exact W.iret (v := 0) hx hb hr (fun t ht hW => ⟨_, rfl, (by unfold natSh; rw [if_pos c_1]), ht⟩) (fun q hq => absurd hq List.not_mem_nil) dX1_naturalShadow_13
  · refine lv_iload_n hx hb dX1_naturalShadow_6 rfl (lv_at hl 1 rfl) ?_
    refine lv_bipush (v := 17) hx hb dX1_naturalShadow_7 (by decide) ?_
    refine lv_icmp_le (tgt := 14) hx hb dX1_naturalShadow_9 (by decide) (fun c_2 => ?_) (fun c_2 => ?_)
    · refine lv_iload_n hx hb dX1_naturalShadow_14 rfl (lv_at hl 1 rfl) ?_
      refine lv_bipush (v := 12) hx hb dX1_naturalShadow_15 (by decide) ?_
      refine lv_isub hx hb dX1_naturalShadow_17 ?_
      refine va_mabs hx hb (by rw [hml]; exact hl.1.symm) hown (hts (.methodLink RX1 235 Lib.Math.abs.name) (List.mem_of_getElem? (i := 1) (by decide +kernel))) (hts (.static Lib.Math.abs.name) (List.mem_of_getElem? (i := 2) (by decide +kernel))) (hts (.initialized "java/lang/Math") (List.mem_of_getElem? (i := 3) (by decide +kernel))) (hts (.code Lib.Math.abs.name Lib.Math.abs.code 1 (some .int)) (List.mem_of_getElem? (i := 4) (by decide +kernel))) (Nat.le_of_ble_eq_true rfl) (Nat.le_of_ble_eq_true rfl) (Nat.zero_le _) (Nat.zero_le _) dX1_naturalShadow_18 ?_
      refine lv_istore_n (lv' := [(2, .int (if 0 ≤ h - 12 then h - 12 else 0 - (h - 12))), (0, .int x), (1, .int h)]) hx hb dX1_naturalShadow_21 rfl hl (by decide) rfl (fun ls hl => ?_)
      refine lv_iload_n hx hb dX1_naturalShadow_22 rfl (lv_at hl 1 rfl) ?_
      refine lv_iload_n hx hb dX1_naturalShadow_23 rfl (lv_at hl 0 rfl) ?_
      refine lv_imul hx hb dX1_naturalShadow_24 ?_
      refine lv_iconst (v := 2) hx hb dX1_naturalShadow_25 (by decide) ?_
      refine lv_idiv hx hb dX1_naturalShadow_26 (by decide) ?_
      exact W.iret (v := (x * (if 0 ≤ h - 12 then h - 12 else 0 - (h - 12))) / 2) hx hb hr (fun t ht hW => ⟨_, rfl, (by unfold natSh; rw [if_neg c_1, if_pos c_2]), ht⟩) (fun q hq => absurd hq List.not_mem_nil) dX1_naturalShadow_27
    · refine lv_iconst (v := 0) hx hb dX1_naturalShadow_12 (by decide) ?_
      exact W.iret (v := 0) hx hb hr (fun t ht hW => ⟨_, rfl, (by unfold natSh; rw [if_neg c_1, if_neg c_2]), ht⟩) (fun q hq => absurd hq List.not_mem_nil) dX1_naturalShadow_13
theorem in_X0_heightOfWornHat_X0 : ∀ w ∈ wsX00, w ∈ wsX0_heightOfWornHat := by decide +kernel
set_option maxHeartbeats 4000000 in
set_option maxRecDepth 100000 in
/-- the height of the hat that is worn -/
theorem c_X0_heightOfWornHat (l : Launch) (D : va_G) (cs : Cs) (ρ : Rf) {B : Nat} {σ : PS} (hI : InvS B σ) (hJ : InjA ρ (sK σ)) (i : Nat) (hi : i < sK σ)  : Met l yX0_heightOfWornHat wsX0_heightOfWornHat ({ frames := 0, cells := 0, slots := 0, locals := 0 }) (va_Pc [.ref (r_a ρ i)] (RBp D cs (MemP D ρ σ))) (vp_Si (fun r : Int32 => r = wornH σ i)) 0 0 (fun _ => False) := by
  refine Met.ofW (cc := cX0_heightOfWornHat) (maxL := 1) (ret := (some .int)) (by decide) rfl ?_
  intro p e s m args below meth c s₁ B0 hml hv
  obtain ⟨rfl, hP, hK, hN⟩ := hv
  have hx := B0.exec
  have hb := B0.bytes
  have hr := B0.returns
  have hts := atoms_spec (ws := wsX0_heightOfWornHat) B0.pre
  have hown : s.vm.findClass RX0 = some m.cls := findClass_of_methodNamed B0.named
  have hlocks := B0.notSynchronized
  have hl := lv_entry ([.ref (r_a ρ i)]) (n := 1) (Nat.le_of_ble_eq_true rfl)
  rw [lg_entry_eq]
  generalize (lg_sl ([.ref (r_a ρ i)]) ++ List.replicate (1 - (lg_sl ([.ref (r_a ρ i)])).length) Slot.unset).toArray = ls at hl ⊢
  have hl : lv_has ls 1 [(0, .ref (r_a ρ i))] := hl
  refine lv_aload_n hx hb dX0_heightOfWornHat_0 rfl (lv_at hl 0 rfl) ?_
  rcases wear_cases hI hi with w_2 | ⟨j_1, hj_1, w_2⟩
  · refine va_get (D := D) (ci := 1) (v := .null) (C := RX0) (T := TX0) (N := 9) hx hb hts in_X0_heightOfWornHat_X0 hown hK (one_P (hP i hi)) 0 rfl rfl 5 (by decide) (hts (.fieldLink RX0 18 "ShadowSociety$Member" "hatOwner" "LShadowSociety$Member;") (List.mem_of_getElem? (i := 1) (by decide +kernel))) (fun _ h9 => h9) (memF_n w_2) dX0_heightOfWornHat_1 ?_
    refine lv_ifnonnullN hx hb dX0_heightOfWornHat_4 ?_
    refine lv_iconst (v := 0) hx hb dX0_heightOfWornHat_7 (by decide) ?_
    refine lv_goto (tgt := 18) hx hb dX0_heightOfWornHat_8 (by decide) ?_
    exact W.iret (v := 0) hx hb hr (fun t ht hW => ⟨_, rfl, (wornH_n w_2).symm, ht⟩) (fun q hq => absurd hq List.not_mem_nil) dX0_heightOfWornHat_18
  · refine va_get (D := D) (ci := 1) (v := .ref (r_a ρ j_1)) (C := RX0) (T := TX0) (N := 9) hx hb hts in_X0_heightOfWornHat_X0 hown hK (one_P (hP i hi)) 0 rfl rfl 5 (by decide) (hts (.fieldLink RX0 18 "ShadowSociety$Member" "hatOwner" "LShadowSociety$Member;") (List.mem_of_getElem? (i := 1) (by decide +kernel))) (fun _ h9 => h9) (memF_s hI hj_1 w_2) dX0_heightOfWornHat_1 ?_
    refine lv_ifnonnull (tgt := 11) hx hb dX0_heightOfWornHat_4 (by decide) ?_
    refine lv_aload_n hx hb dX0_heightOfWornHat_11 rfl (lv_at hl 0 rfl) ?_
    refine va_get (D := D) (ci := 1) (v := .ref (r_a ρ j_1)) (C := RX0) (T := TX0) (N := 9) hx hb hts in_X0_heightOfWornHat_X0 hown hK (one_P (hP i hi)) 0 rfl rfl 5 (by decide) (hts (.fieldLink RX0 18 "ShadowSociety$Member" "hatOwner" "LShadowSociety$Member;") (List.mem_of_getElem? (i := 1) (by decide +kernel))) (fun _ h9 => h9) (memF_s hI hj_1 w_2) dX0_heightOfWornHat_12 ?_
    refine va_get (D := D) (ci := 1) (v := .int (sHa σ j_1)) (C := RX0) (T := TX0) (N := 9) hx hb hts in_X0_heightOfWornHat_X0 hown hK (one_P (hP j_1 hj_1)) 0 rfl rfl 2 (by decide) (hts (.fieldLink RX0 37 "ShadowSociety$Member" "hat" "I") (List.mem_of_getElem? (i := 2) (by decide +kernel))) (fun _ h9 => h9) rfl dX0_heightOfWornHat_15 ?_
    exact W.iret (v := sHa σ j_1) hx hb hr (fun t ht hW => ⟨_, rfl, (wornH_s hI hj_1 w_2).symm, ht⟩) (fun q hq => absurd hq List.not_mem_nil) dX0_heightOfWornHat_18
theorem in_X0_numberOfHatOwner_X0 : ∀ w ∈ wsX00, w ∈ wsX0_numberOfHatOwner := by decide +kernel
set_option maxHeartbeats 4000000 in
set_option maxRecDepth 100000 in
/-- whose hat is worn -/
theorem c_X0_numberOfHatOwner (l : Launch) (D : va_G) (cs : Cs) (ρ : Rf) {B : Nat} {σ : PS} (hI : InvS B σ) (hJ : InjA ρ (sK σ)) (i : Nat) (hi : i < sK σ)  : Met l yX0_numberOfHatOwner wsX0_numberOfHatOwner ({ frames := 0, cells := 0, slots := 0, locals := 0 }) (va_Pc [.ref (r_a ρ i)] (RBp D cs (MemP D ρ σ))) (vp_Si (fun r : Int32 => r = sWe σ i)) 0 0 (fun _ => False) := by
  refine Met.ofW (cc := cX0_numberOfHatOwner) (maxL := 1) (ret := (some .int)) (by decide) rfl ?_
  intro p e s m args below meth c s₁ B0 hml hv
  obtain ⟨rfl, hP, hK, hN⟩ := hv
  have hx := B0.exec
  have hb := B0.bytes
  have hr := B0.returns
  have hts := atoms_spec (ws := wsX0_numberOfHatOwner) B0.pre
  have hown : s.vm.findClass RX0 = some m.cls := findClass_of_methodNamed B0.named
  have hlocks := B0.notSynchronized
  have hl := lv_entry ([.ref (r_a ρ i)]) (n := 1) (Nat.le_of_ble_eq_true rfl)
  rw [lg_entry_eq]
  generalize (lg_sl ([.ref (r_a ρ i)]) ++ List.replicate (1 - (lg_sl ([.ref (r_a ρ i)])).length) Slot.unset).toArray = ls at hl ⊢
  have hl : lv_has ls 1 [(0, .ref (r_a ρ i))] := hl
  refine lv_aload_n hx hb dX0_numberOfHatOwner_0 rfl (lv_at hl 0 rfl) ?_
  rcases wear_cases hI hi with w_2 | ⟨j_1, hj_1, w_2⟩
  · refine va_get (D := D) (ci := 1) (v := .null) (C := RX0) (T := TX0) (N := 9) hx hb hts in_X0_numberOfHatOwner_X0 hown hK (one_P (hP i hi)) 0 rfl rfl 5 (by decide) (hts (.fieldLink RX0 18 "ShadowSociety$Member" "hatOwner" "LShadowSociety$Member;") (List.mem_of_getElem? (i := 1) (by decide +kernel))) (fun _ h9 => h9) (memF_n w_2) dX0_numberOfHatOwner_1 ?_
    refine lv_ifnonnullN hx hb dX0_numberOfHatOwner_4 ?_
    refine lv_iconst (v := (-1)) hx hb dX0_numberOfHatOwner_7 (by decide) ?_
    refine lv_goto (tgt := 18) hx hb dX0_numberOfHatOwner_8 (by decide) ?_
    exact W.iret (v := (-1)) hx hb hr (fun t ht hW => ⟨_, rfl, w_2.symm, ht⟩) (fun q hq => absurd hq List.not_mem_nil) dX0_numberOfHatOwner_18
  · refine va_get (D := D) (ci := 1) (v := .ref (r_a ρ j_1)) (C := RX0) (T := TX0) (N := 9) hx hb hts in_X0_numberOfHatOwner_X0 hown hK (one_P (hP i hi)) 0 rfl rfl 5 (by decide) (hts (.fieldLink RX0 18 "ShadowSociety$Member" "hatOwner" "LShadowSociety$Member;") (List.mem_of_getElem? (i := 1) (by decide +kernel))) (fun _ h9 => h9) (memF_s hI hj_1 w_2) dX0_numberOfHatOwner_1 ?_
    refine lv_ifnonnull (tgt := 11) hx hb dX0_numberOfHatOwner_4 (by decide) ?_
    refine lv_aload_n hx hb dX0_numberOfHatOwner_11 rfl (lv_at hl 0 rfl) ?_
    refine va_get (D := D) (ci := 1) (v := .ref (r_a ρ j_1)) (C := RX0) (T := TX0) (N := 9) hx hb hts in_X0_numberOfHatOwner_X0 hown hK (one_P (hP i hi)) 0 rfl rfl 5 (by decide) (hts (.fieldLink RX0 18 "ShadowSociety$Member" "hatOwner" "LShadowSociety$Member;") (List.mem_of_getElem? (i := 1) (by decide +kernel))) (fun _ h9 => h9) (memF_s hI hj_1 w_2) dX0_numberOfHatOwner_12 ?_
    refine va_get (D := D) (ci := 1) (v := .int (nI j_1)) (C := RX0) (T := TX0) (N := 9) hx hb hts in_X0_numberOfHatOwner_X0 hown hK (one_P (hP j_1 hj_1)) 0 rfl rfl 0 (by decide) (hts (.fieldLink RX0 31 "ShadowSociety$Member" "number" "I") (List.mem_of_getElem? (i := 2) (by decide +kernel))) (fun _ h9 => h9) rfl dX0_numberOfHatOwner_15 ?_
    exact W.iret (v := nI j_1) hx hb hr (fun t ht hW => ⟨_, rfl, w_2.symm, ht⟩) (fun q hq => absurd hq List.not_mem_nil) dX0_numberOfHatOwner_18
theorem in_X0_wearsOwnHat_X0 : ∀ w ∈ wsX00, w ∈ wsX0_wearsOwnHat := by decide +kernel
set_option maxHeartbeats 4000000 in
set_option maxRecDepth 100000 in
/-- wears the own hat -/
theorem c_X0_wearsOwnHat (l : Launch) (D : va_G) (cs : Cs) (ρ : Rf) {B : Nat} {σ : PS} (hI : InvS B σ) (hJ : InjA ρ (sK σ)) (i : Nat) (hi : i < sK σ)  : Met l yX0_wearsOwnHat wsX0_wearsOwnHat ({ frames := 0, cells := 0, slots := 0, locals := 0 }) (va_Pc [.ref (r_a ρ i)] (RBp D cs (MemP D ρ σ))) (vp_Si (fun r : Int32 => r = b01 (wOwn σ i))) 0 0 (fun _ => False) := by
  refine Met.ofW (cc := cX0_wearsOwnHat) (maxL := 1) (ret := (some .boolean)) (by decide) rfl ?_
  intro p e s m args below meth c s₁ B0 hml hv
  obtain ⟨rfl, hP, hK, hN⟩ := hv
  have hx := B0.exec
  have hb := B0.bytes
  have hr := B0.returns
  have hts := atoms_spec (ws := wsX0_wearsOwnHat) B0.pre
  have hown : s.vm.findClass RX0 = some m.cls := findClass_of_methodNamed B0.named
  have hlocks := B0.notSynchronized
  have hl := lv_entry ([.ref (r_a ρ i)]) (n := 1) (Nat.le_of_ble_eq_true rfl)
  rw [lg_entry_eq]
  generalize (lg_sl ([.ref (r_a ρ i)]) ++ List.replicate (1 - (lg_sl ([.ref (r_a ρ i)])).length) Slot.unset).toArray = ls at hl ⊢
  have hl : lv_has ls 1 [(0, .ref (r_a ρ i))] := hl
  refine lv_aload_n hx hb dX0_wearsOwnHat_0 rfl (lv_at hl 0 rfl) ?_
  rcases wear_cases hI hi with w_2 | ⟨j_1, hj_1, w_2⟩
  · refine va_get (D := D) (ci := 1) (v := .null) (C := RX0) (T := TX0) (N := 9) hx hb hts in_X0_wearsOwnHat_X0 hown hK (one_P (hP i hi)) 0 rfl rfl 5 (by decide) (hts (.fieldLink RX0 18 "ShadowSociety$Member" "hatOwner" "LShadowSociety$Member;") (List.mem_of_getElem? (i := 1) (by decide +kernel))) (fun _ h9 => h9) (memF_n w_2) dX0_wearsOwnHat_1 ?_
    refine lv_aload_n hx hb dX0_wearsOwnHat_4 rfl (lv_at hl 0 rfl) ?_
    refine lv_acmp_ne (rx := none) (ry := some (r_a ρ i)) (tgt := 12) hx hb dX0_wearsOwnHat_5 (by decide) (fun c_3 => ?_) (fun c_3 => ?_)
    · refine lv_iconst (v := 0) hx hb dX0_wearsOwnHat_12 (by decide) ?_
      exact W.zret (ty := .boolean) (v := 0) hx hb hr rfl (fun t ht hW => ⟨_, rfl, (b01_f (own_no hI hi w_2)).symm, ht⟩) (fun q hq => absurd hq List.not_mem_nil) dX0_wearsOwnHat_13
    · refine lv_iconst (v := 1) hx hb dX0_wearsOwnHat_8 (by decide) ?_
      refine lv_goto (tgt := 13) hx hb dX0_wearsOwnHat_9 (by decide) ?_
      exact W.zret (ty := .boolean) (v := 1) hx hb hr rfl (fun t ht hW => ⟨_, rfl, (by simp at c_3), ht⟩) (fun q hq => absurd hq List.not_mem_nil) dX0_wearsOwnHat_13
  · refine va_get (D := D) (ci := 1) (v := .ref (r_a ρ j_1)) (C := RX0) (T := TX0) (N := 9) hx hb hts in_X0_wearsOwnHat_X0 hown hK (one_P (hP i hi)) 0 rfl rfl 5 (by decide) (hts (.fieldLink RX0 18 "ShadowSociety$Member" "hatOwner" "LShadowSociety$Member;") (List.mem_of_getElem? (i := 1) (by decide +kernel))) (fun _ h9 => h9) (memF_s hI hj_1 w_2) dX0_wearsOwnHat_1 ?_
    refine lv_aload_n hx hb dX0_wearsOwnHat_4 rfl (lv_at hl 0 rfl) ?_
    refine lv_acmp_ne (rx := some (r_a ρ j_1)) (ry := some (r_a ρ i)) (tgt := 12) hx hb dX0_wearsOwnHat_5 (by decide) (fun c_4 => ?_) (fun c_4 => ?_)
    · refine lv_iconst (v := 0) hx hb dX0_wearsOwnHat_12 (by decide) ?_
      exact W.zret (ty := .boolean) (v := 0) hx hb hr rfl (fun t ht hW => ⟨_, rfl, (b01_f (fun q => c_4 ((own_iff hI hJ hj_1 hi w_2).mpr q))).symm, ht⟩) (fun q hq => absurd hq List.not_mem_nil) dX0_wearsOwnHat_13
    · refine lv_iconst (v := 1) hx hb dX0_wearsOwnHat_8 (by decide) ?_
      refine lv_goto (tgt := 13) hx hb dX0_wearsOwnHat_9 (by decide) ?_
      exact W.zret (ty := .boolean) (v := 1) hx hb hr rfl (fun t ht hW => ⟨_, rfl, (b01_t ((own_iff hI hJ hj_1 hi w_2).mp c_4)).symm, ht⟩) (fun q hq => absurd hq List.not_mem_nil) dX0_wearsOwnHat_13
theorem in_X0_wearsBorrowedHat_X0 : ∀ w ∈ wsX00, w ∈ wsX0_wearsBorrowedHat := by decide +kernel
set_option maxHeartbeats 4000000 in
set_option maxRecDepth 100000 in
/-- wears a borrowed hat -/
theorem c_X0_wearsBorrowedHat (l : Launch) (D : va_G) (cs : Cs) (ρ : Rf) {B : Nat} {σ : PS} (hI : InvS B σ) (hJ : InjA ρ (sK σ)) (i : Nat) (hi : i < sK σ)  : Met l yX0_wearsBorrowedHat wsX0_wearsBorrowedHat ({ frames := 0, cells := 0, slots := 0, locals := 0 }) (va_Pc [.ref (r_a ρ i)] (RBp D cs (MemP D ρ σ))) (vp_Si (fun r : Int32 => r = b01 (wBor σ i))) 0 0 (fun _ => False) := by
  refine Met.ofW (cc := cX0_wearsBorrowedHat) (maxL := 1) (ret := (some .boolean)) (by decide) rfl ?_
  intro p e s m args below meth c s₁ B0 hml hv
  obtain ⟨rfl, hP, hK, hN⟩ := hv
  have hx := B0.exec
  have hb := B0.bytes
  have hr := B0.returns
  have hts := atoms_spec (ws := wsX0_wearsBorrowedHat) B0.pre
  have hown : s.vm.findClass RX0 = some m.cls := findClass_of_methodNamed B0.named
  have hlocks := B0.notSynchronized
  have hl := lv_entry ([.ref (r_a ρ i)]) (n := 1) (Nat.le_of_ble_eq_true rfl)
  rw [lg_entry_eq]
  generalize (lg_sl ([.ref (r_a ρ i)]) ++ List.replicate (1 - (lg_sl ([.ref (r_a ρ i)])).length) Slot.unset).toArray = ls at hl ⊢
  have hl : lv_has ls 1 [(0, .ref (r_a ρ i))] := hl
  refine lv_aload_n hx hb dX0_wearsBorrowedHat_0 rfl (lv_at hl 0 rfl) ?_
  rcases wear_cases hI hi with w_2 | ⟨j_1, hj_1, w_2⟩
  · refine va_get (D := D) (ci := 1) (v := .null) (C := RX0) (T := TX0) (N := 9) hx hb hts in_X0_wearsBorrowedHat_X0 hown hK (one_P (hP i hi)) 0 rfl rfl 5 (by decide) (hts (.fieldLink RX0 18 "ShadowSociety$Member" "hatOwner" "LShadowSociety$Member;") (List.mem_of_getElem? (i := 1) (by decide +kernel))) (fun _ h9 => h9) (memF_n w_2) dX0_wearsBorrowedHat_1 ?_
    refine lv_ifnullN (tgt := 19) hx hb dX0_wearsBorrowedHat_4 (by decide) ?_
    refine lv_iconst (v := 0) hx hb dX0_wearsBorrowedHat_19 (by decide) ?_
    exact W.zret (ty := .boolean) (v := 0) hx hb hr rfl (fun t ht hW => ⟨_, rfl, (b01_f (fun q => q.1 w_2)).symm, ht⟩) (fun q hq => absurd hq List.not_mem_nil) dX0_wearsBorrowedHat_20
  · refine va_get (D := D) (ci := 1) (v := .ref (r_a ρ j_1)) (C := RX0) (T := TX0) (N := 9) hx hb hts in_X0_wearsBorrowedHat_X0 hown hK (one_P (hP i hi)) 0 rfl rfl 5 (by decide) (hts (.fieldLink RX0 18 "ShadowSociety$Member" "hatOwner" "LShadowSociety$Member;") (List.mem_of_getElem? (i := 1) (by decide +kernel))) (fun _ h9 => h9) (memF_s hI hj_1 w_2) dX0_wearsBorrowedHat_1 ?_
    refine lv_ifnull hx hb dX0_wearsBorrowedHat_4 ?_
    refine lv_aload_n hx hb dX0_wearsBorrowedHat_7 rfl (lv_at hl 0 rfl) ?_
    refine va_get (D := D) (ci := 1) (v := .ref (r_a ρ j_1)) (C := RX0) (T := TX0) (N := 9) hx hb hts in_X0_wearsBorrowedHat_X0 hown hK (one_P (hP i hi)) 0 rfl rfl 5 (by decide) (hts (.fieldLink RX0 18 "ShadowSociety$Member" "hatOwner" "LShadowSociety$Member;") (List.mem_of_getElem? (i := 1) (by decide +kernel))) (fun _ h9 => h9) (memF_s hI hj_1 w_2) dX0_wearsBorrowedHat_8 ?_
    refine lv_aload_n hx hb dX0_wearsBorrowedHat_11 rfl (lv_at hl 0 rfl) ?_
    refine lv_acmp_eq (rx := some (r_a ρ j_1)) (ry := some (r_a ρ i)) (tgt := 19) hx hb dX0_wearsBorrowedHat_12 (by decide) (fun c_3 => ?_) (fun c_3 => ?_)
    · refine lv_iconst (v := 0) hx hb dX0_wearsBorrowedHat_19 (by decide) ?_
      exact W.zret (ty := .boolean) (v := 0) hx hb hr rfl (fun t ht hW => ⟨_, rfl, (b01_f (fun q => q.2 ((own_iff hI hJ hj_1 hi w_2).mp c_3))).symm, ht⟩) (fun q hq => absurd hq List.not_mem_nil) dX0_wearsBorrowedHat_20
    · refine lv_iconst (v := 1) hx hb dX0_wearsBorrowedHat_15 (by decide) ?_
      refine lv_goto (tgt := 20) hx hb dX0_wearsBorrowedHat_16 (by decide) ?_
      exact W.zret (ty := .boolean) (v := 1) hx hb hr rfl (fun t ht hW => ⟨_, rfl, (b01_t (⟨own_m1 hI hj_1 w_2, fun q => c_3 ((own_iff hI hJ hj_1 hi w_2).mpr q)⟩)).symm, ht⟩) (fun q hq => absurd hq List.not_mem_nil) dX0_wearsBorrowedHat_20
theorem in_X0_shadowAt_X0 : ∀ w ∈ wsX00, w ∈ wsX0_shadowAt := by decide +kernel
set_option maxHeartbeats 4000000 in
set_option maxRecDepth 100000 in
/-- the shadow at an hour -/
theorem c_X0_shadowAt (l : Launch) (D : va_G) (cs : Cs) (ρ : Rf) {B : Nat} {σ : PS} (hI : InvS B σ) (hJ : InjA ρ (sK σ)) (i : Nat) (hi : i < sK σ) (h : Int32) : Met l yX0_shadowAt wsX0_shadowAt ({ frames := 2, cells := 0, slots := 0, locals := 35 }) (va_Pc [.ref (r_a ρ i), .int h] (RBp D cs (MemP D ρ σ))) (vp_Si (fun r : Int32 => r = shadS σ i h)) 0 0 (fun _ => False) := by
  refine Met.ofW (cc := cX0_shadowAt) (maxL := 2) (ret := (some .int)) (by decide) rfl ?_
  intro p e s m args below meth c s₁ B0 hml hv
  obtain ⟨rfl, hP, hK, hN⟩ := hv
  have hx := B0.exec
  have hb := B0.bytes
  have hr := B0.returns
  have hts := atoms_spec (ws := wsX0_shadowAt) B0.pre
  have hown : s.vm.findClass RX0 = some m.cls := findClass_of_methodNamed B0.named
  have hlocks := B0.notSynchronized
  have hl := lv_entry ([.ref (r_a ρ i), .int h]) (n := 2) (Nat.le_of_ble_eq_true rfl)
  rw [lg_entry_eq]
  generalize (lg_sl ([.ref (r_a ρ i), .int h]) ++ List.replicate (2 - (lg_sl ([.ref (r_a ρ i), .int h])).length) Slot.unset).toArray = ls at hl ⊢
  have hl : lv_has ls 2 [(0, .ref (r_a ρ i)), (1, .int h)] := hl
  refine lv_aload_n hx hb dX0_shadowAt_0 rfl (lv_at hl 0 rfl) ?_
  refine va_get (D := D) (ci := 1) (v := .int (sHe σ i)) (C := RX0) (T := TX0) (N := 9) hx hb hts in_X0_shadowAt_X0 hown hK (one_P (hP i hi)) 0 rfl rfl 1 (by decide) (hts (.fieldLink RX0 34 "ShadowSociety$Member" "height" "I") (List.mem_of_getElem? (i := 1) (by decide +kernel))) (fun _ h9 => h9) rfl dX0_shadowAt_1 ?_
  refine lv_aload_n hx hb dX0_shadowAt_4 rfl (lv_at hl 0 rfl) ?_
  refine vp_callSi (va_Run.run (va_runV (As := []) (rest := [.int (sHe σ i)]) ⟨hx, hb, hml, hown, hts⟩ (c_X0_heightOfWornHat l D cs ρ hI hJ i hi) (cwV 0 hts gX0_shadowAt_X0_heightOfWornHat rfl rfl rfl (by decide +kernel) ⟨Nat.le_of_ble_eq_true rfl, Nat.le_of_ble_eq_true rfl⟩) (rb_V hK hN hP (va_recv hK (one_P (hP i hi)) (ci := 1) (q0 := 0) rfl rfl)) rfl rfl hl.1 rfl (lv_room (Nat.le_of_ble_eq_true rfl)) dX0_shadowAt_5 ⟨Nat.le_of_ble_eq_true rfl, Nat.le_of_ble_eq_true rfl⟩)) (fun r_1 hr_1 => ?_)
  rw [hr_1]
  refine lv_iadd hx hb dX0_shadowAt_8 ?_
  refine lv_iload_n hx hb dX0_shadowAt_9 rfl (lv_at hl 1 rfl) ?_
  refine vp_callSi (va_Run.run (va_runSN (As := [.int ((sHe σ i) + (wornH σ i)), .int h]) (rest := []) ⟨hx, hb, hml, hown, hts⟩ (c_X1_naturalShadow l D cs ((sHe σ i) + (wornH σ i)) h) ⟨va_cnB 2 hts gX0_shadowAt_X1_naturalShadow_n44 rfl rfl rfl (hN (.methodLinkNest "ShadowSociety$Member" 44 ⟨"ShadowSociety", "naturalShadow", "(II)I"⟩ "ShadowSociety") (by decide +kernel)) (hts (.initialized RX1) (List.mem_of_getElem? (i := 11) (by decide +kernel))) (by decide +kernel) ⟨Nat.le_of_ble_eq_true rfl, Nat.le_of_ble_eq_true rfl⟩, hts (.static yX1_naturalShadow) (List.mem_of_getElem? (i := 10) (by decide +kernel)), trivial⟩ (rb_S hK hN trivial) rfl rfl hl.1 rfl (lv_room (Nat.le_of_ble_eq_true rfl)) dX0_shadowAt_10 ⟨Nat.le_of_ble_eq_true rfl, Nat.le_of_ble_eq_true rfl⟩)) (fun r_2 hr_2 => ?_)
  rw [hr_2]
  refine lv_iconst (v := 3) hx hb dX0_shadowAt_13 (by decide) ?_
  refine lv_aload_n hx hb dX0_shadowAt_14 rfl (lv_at hl 0 rfl) ?_
  refine va_get (D := D) (ci := 1) (v := .int (sLa σ i)) (C := RX0) (T := TX0) (N := 9) hx hb hts in_X0_shadowAt_X0 hown hK (one_P (hP i hi)) 0 rfl rfl 4 (by decide) (hts (.fieldLink RX0 15 "ShadowSociety$Member" "lamp" "I") (List.mem_of_getElem? (i := 2) (by decide +kernel))) (fun _ h9 => h9) rfl dX0_shadowAt_15 ?_
  refine lv_imul hx hb dX0_shadowAt_18 ?_
  refine lv_iadd hx hb dX0_shadowAt_19 ?_
  exact W.iret (v := (natSh ((sHe σ i) + (wornH σ i)) h) + (3 * (sLa σ i))) hx hb hr (fun t ht hW => ⟨_, rfl, rfl, ht⟩) (fun q hq => absurd hq List.not_mem_nil) dX0_shadowAt_20
theorem in_X0_honestShadowAt_X0 : ∀ w ∈ wsX00, w ∈ wsX0_honestShadowAt := by decide +kernel
set_option maxHeartbeats 4000000 in
set_option maxRecDepth 100000 in
/-- the honest shadow at an hour -/
theorem c_X0_honestShadowAt (l : Launch) (D : va_G) (cs : Cs) (ρ : Rf) {B : Nat} {σ : PS} (hI : InvS B σ) (hJ : InjA ρ (sK σ)) (i : Nat) (hi : i < sK σ) (h : Int32) : Met l yX0_honestShadowAt wsX0_honestShadowAt ({ frames := 2, cells := 0, slots := 0, locals := 35 }) (va_Pc [.ref (r_a ρ i), .int h] (RBp D cs (MemP D ρ σ))) (vp_Si (fun r : Int32 => r = honsS σ i h)) 0 0 (fun _ => False) := by
  refine Met.ofW (cc := cX0_honestShadowAt) (maxL := 2) (ret := (some .int)) (by decide) rfl ?_
  intro p e s m args below meth c s₁ B0 hml hv
  obtain ⟨rfl, hP, hK, hN⟩ := hv
  have hx := B0.exec
  have hb := B0.bytes
  have hr := B0.returns
  have hts := atoms_spec (ws := wsX0_honestShadowAt) B0.pre
  have hown : s.vm.findClass RX0 = some m.cls := findClass_of_methodNamed B0.named
  have hlocks := B0.notSynchronized
  have hl := lv_entry ([.ref (r_a ρ i), .int h]) (n := 2) (Nat.le_of_ble_eq_true rfl)
  rw [lg_entry_eq]
  generalize (lg_sl ([.ref (r_a ρ i), .int h]) ++ List.replicate (2 - (lg_sl ([.ref (r_a ρ i), .int h])).length) Slot.unset).toArray = ls at hl ⊢
  have hl : lv_has ls 2 [(0, .ref (r_a ρ i)), (1, .int h)] := hl
  refine lv_aload_n hx hb dX0_honestShadowAt_0 rfl (lv_at hl 0 rfl) ?_
  refine va_get (D := D) (ci := 1) (v := .int (sHe σ i)) (C := RX0) (T := TX0) (N := 9) hx hb hts in_X0_honestShadowAt_X0 hown hK (one_P (hP i hi)) 0 rfl rfl 1 (by decide) (hts (.fieldLink RX0 34 "ShadowSociety$Member" "height" "I") (List.mem_of_getElem? (i := 1) (by decide +kernel))) (fun _ h9 => h9) rfl dX0_honestShadowAt_1 ?_
  refine lv_aload_n hx hb dX0_honestShadowAt_4 rfl (lv_at hl 0 rfl) ?_
  refine va_get (D := D) (ci := 1) (v := .int (sHa σ i)) (C := RX0) (T := TX0) (N := 9) hx hb hts in_X0_honestShadowAt_X0 hown hK (one_P (hP i hi)) 0 rfl rfl 2 (by decide) (hts (.fieldLink RX0 37 "ShadowSociety$Member" "hat" "I") (List.mem_of_getElem? (i := 2) (by decide +kernel))) (fun _ h9 => h9) rfl dX0_honestShadowAt_5 ?_
  refine lv_iadd hx hb dX0_honestShadowAt_8 ?_
  refine lv_iload_n hx hb dX0_honestShadowAt_9 rfl (lv_at hl 1 rfl) ?_
  refine vp_callSi (va_Run.run (va_runSN (As := [.int ((sHe σ i) + (sHa σ i)), .int h]) (rest := []) ⟨hx, hb, hml, hown, hts⟩ (c_X1_naturalShadow l D cs ((sHe σ i) + (sHa σ i)) h) ⟨va_cnB 2 hts gX0_honestShadowAt_X1_naturalShadow_n44 rfl rfl rfl (hN (.methodLinkNest "ShadowSociety$Member" 44 ⟨"ShadowSociety", "naturalShadow", "(II)I"⟩ "ShadowSociety") (by decide +kernel)) (hts (.initialized RX1) (List.mem_of_getElem? (i := 4) (by decide +kernel))) (by decide +kernel) ⟨Nat.le_of_ble_eq_true rfl, Nat.le_of_ble_eq_true rfl⟩, hts (.static yX1_naturalShadow) (List.mem_of_getElem? (i := 3) (by decide +kernel)), trivial⟩ (rb_S hK hN trivial) rfl rfl hl.1 rfl (lv_room (Nat.le_of_ble_eq_true rfl)) dX0_honestShadowAt_10 ⟨Nat.le_of_ble_eq_true rfl, Nat.le_of_ble_eq_true rfl⟩)) (fun r_1 hr_1 => ?_)
  rw [hr_1]
  exact W.iret (v := natSh ((sHe σ i) + (sHa σ i)) h) hx hb hr (fun t ht hW => ⟨_, rfl, rfl, ht⟩) (fun q hq => absurd hq List.not_mem_nil) dX0_honestShadowAt_13
theorem in_X0_hasCertificate_X0 : ∀ w ∈ wsX00, w ∈ wsX0_hasCertificate := by decide +kernel
set_option maxHeartbeats 4000000 in
set_option maxRecDepth 100000 in
/-- has a certificate -/
theorem c_X0_hasCertificate (l : Launch) (D : va_G) (cs : Cs) (ρ : Rf) {B : Nat} {σ : PS} (hI : InvS B σ) (hJ : InjA ρ (sK σ)) (i : Nat) (hi : i < sK σ)  : Met l yX0_hasCertificate wsX0_hasCertificate ({ frames := 0, cells := 0, slots := 0, locals := 0 }) (va_Pc [.ref (r_a ρ i)] (RBp D cs (MemP D ρ σ))) (vp_Si (fun r : Int32 => r = b01 (hasC σ i))) 0 0 (fun _ => False) := by
  refine Met.ofW (cc := cX0_hasCertificate) (maxL := 1) (ret := (some .boolean)) (by decide) rfl ?_
  intro p e s m args below meth c s₁ B0 hml hv
  obtain ⟨rfl, hP, hK, hN⟩ := hv
  have hx := B0.exec
  have hb := B0.bytes
  have hr := B0.returns
  have hts := atoms_spec (ws := wsX0_hasCertificate) B0.pre
  have hown : s.vm.findClass RX0 = some m.cls := findClass_of_methodNamed B0.named
  have hlocks := B0.notSynchronized
  have hl := lv_entry ([.ref (r_a ρ i)]) (n := 1) (Nat.le_of_ble_eq_true rfl)
  rw [lg_entry_eq]
  generalize (lg_sl ([.ref (r_a ρ i)]) ++ List.replicate (1 - (lg_sl ([.ref (r_a ρ i)])).length) Slot.unset).toArray = ls at hl ⊢
  have hl : lv_has ls 1 [(0, .ref (r_a ρ i))] := hl
  refine lv_aload_n hx hb dX0_hasCertificate_0 rfl (lv_at hl 0 rfl) ?_
  refine va_get (D := D) (ci := 1) (v := .int (sCe σ i)) (C := RX0) (T := TX0) (N := 9) hx hb hts in_X0_hasCertificate_X0 hown hK (one_P (hP i hi)) 0 rfl rfl 6 (by decide) (hts (.fieldLink RX0 22 "ShadowSociety$Member" "certifiedLength" "I") (List.mem_of_getElem? (i := 1) (by decide +kernel))) (fun _ h9 => h9) rfl dX0_hasCertificate_1 ?_
  refine lv_iconst (v := (-1)) hx hb dX0_hasCertificate_4 (by decide) ?_
  refine lv_icmp_eq (tgt := 12) hx hb dX0_hasCertificate_5 (by decide) (fun c_1 => ?_) (fun c_1 => ?_)
  · refine lv_iconst (v := 0) hx hb dX0_hasCertificate_12 (by decide) ?_
    exact W.zret (ty := .boolean) (v := 0) hx hb hr rfl (fun t ht hW => ⟨_, rfl, (by simp_all [b01, b01_0]), ht⟩) (fun q hq => absurd hq List.not_mem_nil) dX0_hasCertificate_13
  · refine lv_iconst (v := 1) hx hb dX0_hasCertificate_8 (by decide) ?_
    refine lv_goto (tgt := 13) hx hb dX0_hasCertificate_9 (by decide) ?_
    exact W.zret (ty := .boolean) (v := 1) hx hb hr rfl (fun t ht hW => ⟨_, rfl, (by simp_all [b01, b01_0]), ht⟩) (fun q hq => absurd hq List.not_mem_nil) dX0_hasCertificate_13
theorem in_X0_hasHonestCertificate_X0 : ∀ w ∈ wsX00, w ∈ wsX0_hasHonestCertificate := by decide +kernel
set_option maxHeartbeats 4000000 in
set_option maxRecDepth 100000 in
/-- has an honest certificate -/
theorem c_X0_hasHonestCertificate (l : Launch) (D : va_G) (cs : Cs) (ρ : Rf) {B : Nat} {σ : PS} (hI : InvS B σ) (hJ : InjA ρ (sK σ)) (i : Nat) (hi : i < sK σ)  : Met l yX0_hasHonestCertificate wsX0_hasHonestCertificate ({ frames := 3, cells := 0, slots := 0, locals := 56 }) (va_Pc [.ref (r_a ρ i)] (RBp D cs (MemP D ρ σ))) (vp_Si (fun r : Int32 => r = b01 (hasC σ i ∧ truC σ i))) 0 0 (fun _ => False) := by
  refine Met.ofW (cc := cX0_hasHonestCertificate) (maxL := 1) (ret := (some .boolean)) (by decide) rfl ?_
  intro p e s m args below meth c s₁ B0 hml hv
  obtain ⟨rfl, hP, hK, hN⟩ := hv
  have hx := B0.exec
  have hb := B0.bytes
  have hr := B0.returns
  have hts := atoms_spec (ws := wsX0_hasHonestCertificate) B0.pre
  have hown : s.vm.findClass RX0 = some m.cls := findClass_of_methodNamed B0.named
  have hlocks := B0.notSynchronized
  have hl := lv_entry ([.ref (r_a ρ i)]) (n := 1) (Nat.le_of_ble_eq_true rfl)
  rw [lg_entry_eq]
  generalize (lg_sl ([.ref (r_a ρ i)]) ++ List.replicate (1 - (lg_sl ([.ref (r_a ρ i)])).length) Slot.unset).toArray = ls at hl ⊢
  have hl : lv_has ls 1 [(0, .ref (r_a ρ i))] := hl
  refine lv_aload_n hx hb dX0_hasHonestCertificate_0 rfl (lv_at hl 0 rfl) ?_
  refine vp_callSi (va_Run.run (va_runV (As := []) (rest := []) ⟨hx, hb, hml, hown, hts⟩ (c_X0_hasCertificate l D cs ρ hI hJ i hi) (cwV 0 hts gX0_hasHonestCertificate_X0_hasCertificate rfl rfl rfl (by decide +kernel) ⟨Nat.le_of_ble_eq_true rfl, Nat.le_of_ble_eq_true rfl⟩) (rb_V hK hN hP (va_recv hK (one_P (hP i hi)) (ci := 1) (q0 := 0) rfl rfl)) rfl rfl hl.1 rfl (lv_room (Nat.le_of_ble_eq_true rfl)) dX0_hasHonestCertificate_1 ⟨Nat.le_of_ble_eq_true rfl, Nat.le_of_ble_eq_true rfl⟩)) (fun r_1 hr_1 => ?_)
  rw [hr_1]
  refine lv_if_eq (tgt := 26) hx hb dX0_hasHonestCertificate_4 (by decide) (fun c_2 => ?_) (fun c_2 => ?_)
  · refine lv_iconst (v := 0) hx hb dX0_hasHonestCertificate_26 (by decide) ?_
    exact W.zret (ty := .boolean) (v := 0) hx hb hr rfl (fun t ht hW => ⟨_, rfl, (by simp_all [b01, b01_0]), ht⟩) (fun q hq => absurd hq List.not_mem_nil) dX0_hasHonestCertificate_27
  · refine lv_aload_n hx hb dX0_hasHonestCertificate_7 rfl (lv_at hl 0 rfl) ?_
    refine va_get (D := D) (ci := 1) (v := .int (sCe σ i)) (C := RX0) (T := TX0) (N := 9) hx hb hts in_X0_hasHonestCertificate_X0 hown hK (one_P (hP i hi)) 0 rfl rfl 6 (by decide) (hts (.fieldLink RX0 22 "ShadowSociety$Member" "certifiedLength" "I") (List.mem_of_getElem? (i := 1) (by decide +kernel))) (fun _ h9 => h9) rfl dX0_hasHonestCertificate_8 ?_
    refine lv_aload_n hx hb dX0_hasHonestCertificate_11 rfl (lv_at hl 0 rfl) ?_
    refine lv_aload_n hx hb dX0_hasHonestCertificate_12 rfl (lv_at hl 0 rfl) ?_
    refine va_get (D := D) (ci := 1) (v := .int (sAt σ i)) (C := RX0) (T := TX0) (N := 9) hx hb hts in_X0_hasHonestCertificate_X0 hown hK (one_P (hP i hi)) 0 rfl rfl 7 (by decide) (hts (.fieldLink RX0 25 "ShadowSociety$Member" "certifiedHour" "I") (List.mem_of_getElem? (i := 2) (by decide +kernel))) (fun _ h9 => h9) rfl dX0_hasHonestCertificate_13 ?_
    refine vp_callSi (va_Run.run (va_runV (As := [.int (sAt σ i)]) (rest := [.int (sCe σ i)]) ⟨hx, hb, hml, hown, hts⟩ (c_X0_honestShadowAt l D cs ρ hI hJ i hi (sAt σ i)) (cwV 1 hts gX0_hasHonestCertificate_X0_honestShadowAt rfl rfl rfl (by decide +kernel) ⟨Nat.le_of_ble_eq_true rfl, Nat.le_of_ble_eq_true rfl⟩) (rb_V hK hN hP (va_recv hK (one_P (hP i hi)) (ci := 1) (q0 := 0) rfl rfl)) rfl rfl hl.1 rfl (lv_room (Nat.le_of_ble_eq_true rfl)) dX0_hasHonestCertificate_16 ⟨Nat.le_of_ble_eq_true rfl, Nat.le_of_ble_eq_true rfl⟩)) (fun r_3 hr_3 => ?_)
    rw [hr_3]
    refine lv_icmp_ne (tgt := 26) hx hb dX0_hasHonestCertificate_19 (by decide) (fun c_4 => ?_) (fun c_4 => ?_)
    · refine lv_iconst (v := 0) hx hb dX0_hasHonestCertificate_26 (by decide) ?_
      exact W.zret (ty := .boolean) (v := 0) hx hb hr rfl (fun t ht hW => ⟨_, rfl, (by simp_all [b01, b01_0]), ht⟩) (fun q hq => absurd hq List.not_mem_nil) dX0_hasHonestCertificate_27
    · refine lv_iconst (v := 1) hx hb dX0_hasHonestCertificate_22 (by decide) ?_
      refine lv_goto (tgt := 27) hx hb dX0_hasHonestCertificate_23 (by decide) ?_
      exact W.zret (ty := .boolean) (v := 1) hx hb hr rfl (fun t ht hW => ⟨_, rfl, (by simp_all [b01, b01_0]), ht⟩) (fun q hq => absurd hq List.not_mem_nil) dX0_hasHonestCertificate_27
theorem in_X0_isOut_X0 : ∀ w ∈ wsX00, w ∈ wsX0_isOut := by decide +kernel
set_option maxHeartbeats 4000000 in
set_option maxRecDepth 100000 in
/-- is expelled -/
theorem c_X0_isOut (l : Launch) (D : va_G) (cs : Cs) (ρ : Rf) {B : Nat} {σ : PS} (hI : InvS B σ) (hJ : InjA ρ (sK σ)) (i : Nat) (hi : i < sK σ)  : Met l yX0_isOut wsX0_isOut ({ frames := 0, cells := 0, slots := 0, locals := 0 }) (va_Pc [.ref (r_a ρ i)] (RBp D cs (MemP D ρ σ))) (vp_Si (fun r : Int32 => r = b01 (outS σ i))) 0 0 (fun _ => False) := by
  refine Met.ofW (cc := cX0_isOut) (maxL := 1) (ret := (some .boolean)) (by decide) rfl ?_
  intro p e s m args below meth c s₁ B0 hml hv
  obtain ⟨rfl, hP, hK, hN⟩ := hv
  have hx := B0.exec
  have hb := B0.bytes
  have hr := B0.returns
  have hts := atoms_spec (ws := wsX0_isOut) B0.pre
  have hown : s.vm.findClass RX0 = some m.cls := findClass_of_methodNamed B0.named
  have hlocks := B0.notSynchronized
  have hl := lv_entry ([.ref (r_a ρ i)]) (n := 1) (Nat.le_of_ble_eq_true rfl)
  rw [lg_entry_eq]
  generalize (lg_sl ([.ref (r_a ρ i)]) ++ List.replicate (1 - (lg_sl ([.ref (r_a ρ i)])).length) Slot.unset).toArray = ls at hl ⊢
  have hl : lv_has ls 1 [(0, .ref (r_a ρ i))] := hl
  refine lv_aload_n hx hb dX0_isOut_0 rfl (lv_at hl 0 rfl) ?_
  refine va_get (D := D) (ci := 1) (v := .int (sLo σ i)) (C := RX0) (T := TX0) (N := 9) hx hb hts in_X0_isOut_X0 hown hK (one_P (hP i hi)) 0 rfl rfl 8 (by decide) (hts (.fieldLink RX0 28 "ShadowSociety$Member" "revocations" "I") (List.mem_of_getElem? (i := 1) (by decide +kernel))) (fun _ h9 => h9) rfl dX0_isOut_1 ?_
  refine lv_iconst (v := 3) hx hb dX0_isOut_4 (by decide) ?_
  refine lv_icmp_lt (tgt := 12) hx hb dX0_isOut_5 (by decide) (fun c_1 => ?_) (fun c_1 => ?_)
  · refine lv_iconst (v := 0) hx hb dX0_isOut_12 (by decide) ?_
    exact W.zret (ty := .boolean) (v := 0) hx hb hr rfl (fun t ht hW => ⟨_, rfl, (by simp_all [b01, b01_0]), ht⟩) (fun q hq => absurd hq List.not_mem_nil) dX0_isOut_13
  · refine lv_iconst (v := 1) hx hb dX0_isOut_8 (by decide) ?_
    refine lv_goto (tgt := 13) hx hb dX0_isOut_9 (by decide) ?_
    exact W.zret (ty := .boolean) (v := 1) hx hb hr rfl (fun t ht hW => ⟨_, rfl, (by simp_all [b01, b01_0]), ht⟩) (fun q hq => absurd hq List.not_mem_nil) dX0_isOut_13
theorem in_X0_fineForLamp_X0 : ∀ w ∈ wsX00, w ∈ wsX0_fineForLamp := by decide +kernel
set_option maxHeartbeats 4000000 in
set_option maxRecDepth 100000 in
/-- the fine for the lamp -/
theorem c_X0_fineForLamp (l : Launch) (D : va_G) (cs : Cs) (ρ : Rf) {B : Nat} {σ : PS} (hI : InvS B σ) (hJ : InjA ρ (sK σ)) (i : Nat) (hi : i < sK σ)  : Met l yX0_fineForLamp wsX0_fineForLamp ({ frames := 0, cells := 0, slots := 0, locals := 0 }) (va_Pc [.ref (r_a ρ i)] (RBp D cs (MemP D ρ σ))) (vp_Si (fun r : Int32 => r = 2 * sLa σ i)) 0 0 (fun _ => False) := by
  refine Met.ofW (cc := cX0_fineForLamp) (maxL := 1) (ret := (some .int)) (by decide) rfl ?_
  intro p e s m args below meth c s₁ B0 hml hv
  obtain ⟨rfl, hP, hK, hN⟩ := hv
  have hx := B0.exec
  have hb := B0.bytes
  have hr := B0.returns
  have hts := atoms_spec (ws := wsX0_fineForLamp) B0.pre
  have hown : s.vm.findClass RX0 = some m.cls := findClass_of_methodNamed B0.named
  have hlocks := B0.notSynchronized
  have hl := lv_entry ([.ref (r_a ρ i)]) (n := 1) (Nat.le_of_ble_eq_true rfl)
  rw [lg_entry_eq]
  generalize (lg_sl ([.ref (r_a ρ i)]) ++ List.replicate (1 - (lg_sl ([.ref (r_a ρ i)])).length) Slot.unset).toArray = ls at hl ⊢
  have hl : lv_has ls 1 [(0, .ref (r_a ρ i))] := hl
  refine lv_iconst (v := 2) hx hb dX0_fineForLamp_0 (by decide) ?_
  refine lv_aload_n hx hb dX0_fineForLamp_1 rfl (lv_at hl 0 rfl) ?_
  refine va_get (D := D) (ci := 1) (v := .int (sLa σ i)) (C := RX0) (T := TX0) (N := 9) hx hb hts in_X0_fineForLamp_X0 hown hK (one_P (hP i hi)) 0 rfl rfl 4 (by decide) (hts (.fieldLink RX0 15 "ShadowSociety$Member" "lamp" "I") (List.mem_of_getElem? (i := 1) (by decide +kernel))) (fun _ h9 => h9) rfl dX0_fineForLamp_2 ?_
  refine lv_imul hx hb dX0_fineForLamp_5 ?_
  exact W.iret (v := 2 * (sLa σ i)) hx hb hr (fun t ht hW => ⟨_, rfl, rfl, ht⟩) (fun q hq => absurd hq List.not_mem_nil) dX0_fineForLamp_6
set_option maxHeartbeats 4000000 in
set_option maxRecDepth 100000 in
/-- what the certificate brings -/
theorem c_X0_gainOfCertificate (l : Launch) (D : va_G) (cs : Cs) (ρ : Rf) {B : Nat} {σ : PS} (hI : InvS B σ) (hJ : InjA ρ (sK σ)) (i : Nat) (hi : i < sK σ)  : Met l yX0_gainOfCertificate wsX0_gainOfCertificate ({ frames := 4, cells := 0, slots := 0, locals := 76 }) (va_Pc [.ref (r_a ρ i)] (RBp D cs (MemP D ρ σ))) (vp_Si (fun r : Int32 => r = gainC σ i)) 0 0 (fun _ => False) := by
  refine Met.ofW (cc := cX0_gainOfCertificate) (maxL := 1) (ret := (some .int)) (by decide) rfl ?_
  intro p e s m args below meth c s₁ B0 hml hv
  obtain ⟨rfl, hP, hK, hN⟩ := hv
  have hx := B0.exec
  have hb := B0.bytes
  have hr := B0.returns
  have hts := atoms_spec (ws := wsX0_gainOfCertificate) B0.pre
  have hown : s.vm.findClass RX0 = some m.cls := findClass_of_methodNamed B0.named
  have hlocks := B0.notSynchronized
  have hl := lv_entry ([.ref (r_a ρ i)]) (n := 1) (Nat.le_of_ble_eq_true rfl)
  rw [lg_entry_eq]
  generalize (lg_sl ([.ref (r_a ρ i)]) ++ List.replicate (1 - (lg_sl ([.ref (r_a ρ i)])).length) Slot.unset).toArray = ls at hl ⊢
  have hl : lv_has ls 1 [(0, .ref (r_a ρ i))] := hl
  refine lv_aload_n hx hb dX0_gainOfCertificate_0 rfl (lv_at hl 0 rfl) ?_
  refine vp_callSi (va_Run.run (va_runV (As := []) (rest := []) ⟨hx, hb, hml, hown, hts⟩ (c_X0_hasCertificate l D cs ρ hI hJ i hi) (cwV 0 hts gX0_gainOfCertificate_X0_hasCertificate rfl rfl rfl (by decide +kernel) ⟨Nat.le_of_ble_eq_true rfl, Nat.le_of_ble_eq_true rfl⟩) (rb_V hK hN hP (va_recv hK (one_P (hP i hi)) (ci := 1) (q0 := 0) rfl rfl)) rfl rfl hl.1 rfl (lv_room (Nat.le_of_ble_eq_true rfl)) dX0_gainOfCertificate_1 ⟨Nat.le_of_ble_eq_true rfl, Nat.le_of_ble_eq_true rfl⟩)) (fun r_1 hr_1 => ?_)
  rw [hr_1]
  refine lv_if_ne (tgt := 9) hx hb dX0_gainOfCertificate_4 (by decide) (fun c_2 => ?_) (fun c_2 => ?_)
  · refine lv_aload_n hx hb dX0_gainOfCertificate_9 rfl (lv_at hl 0 rfl) ?_
    refine vp_callSi (va_Run.run (va_runV (As := []) (rest := []) ⟨hx, hb, hml, hown, hts⟩ (c_X0_hasHonestCertificate l D cs ρ hI hJ i hi) (cwV 0 hts gX0_gainOfCertificate_X0_hasHonestCertificate rfl rfl rfl (by decide +kernel) ⟨Nat.le_of_ble_eq_true rfl, Nat.le_of_ble_eq_true rfl⟩) (rb_V hK hN hP (va_recv hK (one_P (hP i hi)) (ci := 1) (q0 := 0) rfl rfl)) rfl rfl hl.1 rfl (lv_room (Nat.le_of_ble_eq_true rfl)) dX0_gainOfCertificate_10 ⟨Nat.le_of_ble_eq_true rfl, Nat.le_of_ble_eq_true rfl⟩)) (fun r_3 hr_3 => ?_)
    rw [hr_3]
    refine lv_if_eq (tgt := 20) hx hb dX0_gainOfCertificate_13 (by decide) (fun c_4 => ?_) (fun c_4 => ?_)
    · refine lv_bipush (v := (-10)) hx hb dX0_gainOfCertificate_20 (by decide) ?_
      exact W.iret (v := (-10)) hx hb hr (fun t ht hW => ⟨_, rfl, (by unfold gainC; simp_all [b01, b01_0]), ht⟩) (fun q hq => absurd hq List.not_mem_nil) dX0_gainOfCertificate_22
    · refine lv_iconst (v := 3) hx hb dX0_gainOfCertificate_16 (by decide) ?_
      refine lv_goto (tgt := 22) hx hb dX0_gainOfCertificate_17 (by decide) ?_
      exact W.iret (v := 3) hx hb hr (fun t ht hW => ⟨_, rfl, (by unfold gainC; simp_all [b01, b01_0]), ht⟩) (fun q hq => absurd hq List.not_mem_nil) dX0_gainOfCertificate_22
  · refine lv_iconst (v := 0) hx hb dX0_gainOfCertificate_7 (by decide) ?_
    exact W.iret (v := 0) hx hb hr (fun t ht hW => ⟨_, rfl, (by unfold gainC; simp_all [b01, b01_0]), ht⟩) (fun q hq => absurd hq List.not_mem_nil) dX0_gainOfCertificate_8
set_option maxHeartbeats 4000000 in
set_option maxRecDepth 100000 in
/-- what the audit brings -/
theorem c_X0_gainAtAudit (l : Launch) (D : va_G) (cs : Cs) (ρ : Rf) {B : Nat} {σ : PS} (hI : InvS B σ) (hJ : InjA ρ (sK σ)) (i : Nat) (hi : i < sK σ)  : Met l yX0_gainAtAudit wsX0_gainAtAudit ({ frames := 5, cells := 0, slots := 0, locals := 96 }) (va_Pc [.ref (r_a ρ i)] (RBp D cs (MemP D ρ σ))) (vp_Si (fun r : Int32 => r = gainS σ i)) 0 0 (fun _ => False) := by
  refine Met.ofW (cc := cX0_gainAtAudit) (maxL := 1) (ret := (some .int)) (by decide) rfl ?_
  intro p e s m args below meth c s₁ B0 hml hv
  obtain ⟨rfl, hP, hK, hN⟩ := hv
  have hx := B0.exec
  have hb := B0.bytes
  have hr := B0.returns
  have hts := atoms_spec (ws := wsX0_gainAtAudit) B0.pre
  have hown : s.vm.findClass RX0 = some m.cls := findClass_of_methodNamed B0.named
  have hlocks := B0.notSynchronized
  have hl := lv_entry ([.ref (r_a ρ i)]) (n := 1) (Nat.le_of_ble_eq_true rfl)
  rw [lg_entry_eq]
  generalize (lg_sl ([.ref (r_a ρ i)]) ++ List.replicate (1 - (lg_sl ([.ref (r_a ρ i)])).length) Slot.unset).toArray = ls at hl ⊢
  have hl : lv_has ls 1 [(0, .ref (r_a ρ i))] := hl
  refine lv_aload_n hx hb dX0_gainAtAudit_0 rfl (lv_at hl 0 rfl) ?_
  refine vp_callSi (va_Run.run (va_runV (As := []) (rest := []) ⟨hx, hb, hml, hown, hts⟩ (c_X0_gainOfCertificate l D cs ρ hI hJ i hi) (cwV 0 hts gX0_gainAtAudit_X0_gainOfCertificate rfl rfl rfl (by decide +kernel) ⟨Nat.le_of_ble_eq_true rfl, Nat.le_of_ble_eq_true rfl⟩) (rb_V hK hN hP (va_recv hK (one_P (hP i hi)) (ci := 1) (q0 := 0) rfl rfl)) rfl rfl hl.1 rfl (lv_room (Nat.le_of_ble_eq_true rfl)) dX0_gainAtAudit_1 ⟨Nat.le_of_ble_eq_true rfl, Nat.le_of_ble_eq_true rfl⟩)) (fun r_1 hr_1 => ?_)
  rw [hr_1]
  refine lv_aload_n hx hb dX0_gainAtAudit_4 rfl (lv_at hl 0 rfl) ?_
  refine vp_callSi (va_Run.run (va_runV (As := []) (rest := [.int (gainC σ i)]) ⟨hx, hb, hml, hown, hts⟩ (c_X0_fineForLamp l D cs ρ hI hJ i hi) (cwV 0 hts gX0_gainAtAudit_X0_fineForLamp rfl rfl rfl (by decide +kernel) ⟨Nat.le_of_ble_eq_true rfl, Nat.le_of_ble_eq_true rfl⟩) (rb_V hK hN hP (va_recv hK (one_P (hP i hi)) (ci := 1) (q0 := 0) rfl rfl)) rfl rfl hl.1 rfl (lv_room (Nat.le_of_ble_eq_true rfl)) dX0_gainAtAudit_5 ⟨Nat.le_of_ble_eq_true rfl, Nat.le_of_ble_eq_true rfl⟩)) (fun r_2 hr_2 => ?_)
  rw [hr_2]
  refine lv_isub hx hb dX0_gainAtAudit_8 ?_
  exact W.iret (v := (gainC σ i) - (2 * sLa σ i)) hx hb hr (fun t ht hW => ⟨_, rfl, rfl, ht⟩) (fun q hq => absurd hq List.not_mem_nil) dX0_gainAtAudit_9
