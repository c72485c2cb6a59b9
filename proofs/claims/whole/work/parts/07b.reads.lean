/-! THE REFERENCE: methods that only read (laid by wip/whole/gen/model.py) -/
set_option maxHeartbeats 4000000 in
set_option maxRecDepth 100000 in
/-- is it in a range -/
theorem c_X2_isIn (l : Launch) (D : va_G) (cs : Cs) (v lo hi : Int32) : Met l yX2_isIn wsX2_isIn ({ frames := 0, cells := 0, slots := 0, locals := 0 }) (va_Pc [.int v, .int lo, .int hi] (RBp D cs (fun _ => True))) (vp_Si (fun r : Int32 => r = b01 (¬ v < lo ∧ ¬ hi < v))) 0 0 (fun _ => False) := by
  refine Met.ofW (cc := cX2_isIn) (maxL := 3) (ret := (some .boolean)) (by decide) rfl ?_
  intro p e s m args below meth c s₁ B0 hml hv
  obtain ⟨rfl, hP, hK, hN⟩ := hv
  have hx := B0.exec
  have hb := B0.bytes
  have hr := B0.returns
  have hts := atoms_spec (ws := wsX2_isIn) B0.pre
  have hown : s.vm.findClass RX2 = some m.cls := findClass_of_methodNamed B0.named
  have hlocks := B0.notSynchronized
  have hl := lv_entry ([.int v, .int lo, .int hi]) (n := 3) (Nat.le_of_ble_eq_true rfl)
  rw [lg_entry_eq]
  generalize (lg_sl ([.int v, .int lo, .int hi]) ++ List.replicate (3 - (lg_sl ([.int v, .int lo, .int hi])).length) Slot.unset).toArray = ls at hl ⊢
  have hl : lv_has ls 3 [(0, .int v), (1, .int lo), (2, .int hi)] := hl
  refine lv_iload_n hx hb dX2_isIn_0 rfl (lv_at hl 0 rfl) ?_
  refine lv_iload_n hx hb dX2_isIn_1 rfl (lv_at hl 1 rfl) ?_
  refine lv_icmp_lt (tgt := 14) hx hb dX2_isIn_2 (by decide) (fun c_1 => ?_) (fun c_1 => ?_)
  · refine lv_iconst (v := 0) hx hb dX2_isIn_14 (by decide) ?_
    exact W.zret (ty := .boolean) (v := 0) hx hb hr rfl (fun t ht hW => ⟨_, rfl, (b01_f (fun q => q.1 c_1)).symm, ht⟩) (fun q hq => absurd hq List.not_mem_nil) dX2_isIn_15
  · refine lv_iload_n hx hb dX2_isIn_5 rfl (lv_at hl 0 rfl) ?_
    refine lv_iload_n hx hb dX2_isIn_6 rfl (lv_at hl 2 rfl) ?_
    refine lv_icmp_gt (tgt := 14) hx hb dX2_isIn_7 (by decide) (fun c_2 => ?_) (fun c_2 => ?_)
    · refine lv_iconst (v := 0) hx hb dX2_isIn_14 (by decide) ?_
      exact W.zret (ty := .boolean) (v := 0) hx hb hr rfl (fun t ht hW => ⟨_, rfl, (b01_f (fun q => q.2 c_2)).symm, ht⟩) (fun q hq => absurd hq List.not_mem_nil) dX2_isIn_15
    · refine lv_iconst (v := 1) hx hb dX2_isIn_10 (by decide) ?_
      refine lv_goto (tgt := 15) hx hb dX2_isIn_11 (by decide) ?_
      exact W.zret (ty := .boolean) (v := 1) hx hb hr rfl (fun t ht hW => ⟨_, rfl, (b01_t ⟨c_1, c_2⟩).symm, ht⟩) (fun q hq => absurd hq List.not_mem_nil) dX2_isIn_15
theorem in_X2_isMember_X2 : ∀ w ∈ wsX20, w ∈ wsX2_isMember := by decide +kernel
set_option maxHeartbeats 4000000 in
set_option maxRecDepth 100000 in
/-- is it a member -/
theorem c_X2_isMember (l : Launch) (D : va_G) (cs : Cs) (M : Nat × (Nat → Nat)) (th : Int32) {B : Nat} {σ : PS} (hI : InvS B σ) (a : Int32) : Met l yX2_isMember wsX2_isMember ({ frames := 1, cells := 0, slots := 0, locals := 22 }) (va_Pc [.ref M.1, .int a] (RBp D cs (va_P D vwCl (modW cs M th σ)))) (vp_Si (fun r : Int32 => r = b01 ((ixS σ a).isSome = true))) 0 0 (fun _ => False) := by
  refine Met.ofW (cc := cX2_isMember) (maxL := 2) (ret := (some .boolean)) (by decide) rfl ?_
  intro p e s m args below meth c s₁ B0 hml hv
  obtain ⟨rfl, hP, hK, hN⟩ := hv
  have hx := B0.exec
  have hb := B0.bytes
  have hr := B0.returns
  have hts := atoms_spec (ws := wsX2_isMember) B0.pre
  have hown : s.vm.findClass RX2 = some m.cls := findClass_of_methodNamed B0.named
  have hlocks := B0.notSynchronized
  have hl := lv_entry ([.ref M.1, .int a]) (n := 2) (Nat.le_of_ble_eq_true rfl)
  rw [lg_entry_eq]
  generalize (lg_sl ([.ref M.1, .int a]) ++ List.replicate (2 - (lg_sl ([.ref M.1, .int a])).length) Slot.unset).toArray = ls at hl ⊢
  have hl : lv_has ls 2 [(0, .ref M.1), (1, .int a)] := hl
  refine lv_iload_n hx hb dX2_isMember_0 rfl (lv_at hl 1 rfl) ?_
  refine lv_iconst (v := 0) hx hb dX2_isMember_1 (by decide) ?_
  refine lv_aload_n hx hb dX2_isMember_2 rfl (lv_at hl 0 rfl) ?_
  refine va_get (D := D) (ci := 3) (v := .int (nI (sK σ))) (C := RX2) (T := TX2) (N := 13) hx hb hts in_X2_isMember_X2 hown hK hP 0 rfl rfl 1 (by decide) (hts (.fieldLink RX2 38 "ShadowSocietyModel" "members" "I") (List.mem_of_getElem? (i := 1) (by decide +kernel))) (fun _ h9 => h9) rfl dX2_isMember_3 ?_
  refine lv_iconst (v := 1) hx hb dX2_isMember_6 (by decide) ?_
  refine lv_isub hx hb dX2_isMember_7 ?_
  refine vp_callSi (va_Run.run (va_runS (As := [.int a, .int 0, .int ((nI (sK σ)) - 1)]) (rest := []) ⟨hx, hb, hml, hown, hts⟩ (c_X2_isIn l D cs a 0 ((nI (sK σ)) - 1)) (va_cwS 3 hts gX2_isMember_X2_isIn rfl rfl rfl (by decide +kernel) ⟨Nat.le_of_ble_eq_true rfl, Nat.le_of_ble_eq_true rfl⟩) (rb_S hK hN trivial) rfl rfl hl.1 rfl (lv_room (Nat.le_of_ble_eq_true rfl)) dX2_isMember_8 ⟨Nat.le_of_ble_eq_true rfl, Nat.le_of_ble_eq_true rfl⟩)) (fun r_1 hr_1 => ?_)
  rw [hr_1]
  exact W.zret (ty := .boolean) (v := b01 (¬ a < 0 ∧ ¬ ((nI (sK σ)) - 1) < a)) hx hb hr (b01_nar _) (fun t ht hW => ⟨_, rfl, (isIn_c.symm.trans (isMem_eq hI a)), ht⟩) (fun q hq => absurd hq List.not_mem_nil) dX2_isMember_11
theorem in_X2_ofDay_X2 : ∀ w ∈ wsX20, w ∈ wsX2_ofDay := by decide +kernel
set_option maxHeartbeats 4000000 in
set_option maxRecDepth 100000 in
/-- the hour of the day -/
theorem c_X2_ofDay (l : Launch) (D : va_G) (cs : Cs) (M : Nat × (Nat → Nat)) (th : Int32) {B : Nat} {σ : PS} (hI : InvS B σ)  : Met l yX2_ofDay wsX2_ofDay ({ frames := 0, cells := 0, slots := 0, locals := 0 }) (va_Pc [.ref M.1] (RBp D cs (va_P D vwCl (modW cs M th σ)))) (vp_Si (fun r : Int32 => r = dayOf σ)) 0 0 (fun _ => False) := by
  refine Met.ofW (cc := cX2_ofDay) (maxL := 1) (ret := (some .int)) (by decide) rfl ?_
  intro p e s m args below meth c s₁ B0 hml hv
  obtain ⟨rfl, hP, hK, hN⟩ := hv
  have hx := B0.exec
  have hb := B0.bytes
  have hr := B0.returns
  have hts := atoms_spec (ws := wsX2_ofDay) B0.pre
  have hown : s.vm.findClass RX2 = some m.cls := findClass_of_methodNamed B0.named
  have hlocks := B0.notSynchronized
  have hl := lv_entry ([.ref M.1]) (n := 1) (Nat.le_of_ble_eq_true rfl)
  rw [lg_entry_eq]
  generalize (lg_sl ([.ref M.1]) ++ List.replicate (1 - (lg_sl ([.ref M.1])).length) Slot.unset).toArray = ls at hl ⊢
  have hl : lv_has ls 1 [(0, .ref M.1)] := hl
  refine lv_aload_n hx hb dX2_ofDay_0 rfl (lv_at hl 0 rfl) ?_
  refine va_get (D := D) (ci := 3) (v := .int (sHr σ)) (C := RX2) (T := TX2) (N := 13) hx hb hts in_X2_ofDay_X2 hown hK hP 0 rfl rfl 2 (by decide) (hts (.fieldLink RX2 45 "ShadowSocietyModel" "hour" "I") (List.mem_of_getElem? (i := 1) (by decide +kernel))) (fun _ h9 => h9) rfl dX2_ofDay_1 ?_
  refine lv_bipush (v := 24) hx hb dX2_ofDay_4 (by decide) ?_
  refine lv_irem hx hb dX2_ofDay_6 (by decide) ?_
  exact W.iret (v := (sHr σ) - (sHr σ) / 24 * 24) hx hb hr (fun t ht hW => ⟨_, rfl, rfl, ht⟩) (fun q hq => absurd hq List.not_mem_nil) dX2_ofDay_7
set_option maxHeartbeats 4000000 in
set_option maxRecDepth 100000 in
/-- steps from noon -/
theorem c_X2_steps (l : Launch) (D : va_G) (cs : Cs) (h : Int32) : Met l yX2_steps wsX2_steps ({ frames := 1, cells := 0, slots := 0, locals := 22 }) (va_Pc [.int h] (RBp D cs (fun _ => True))) (vp_Si (fun r : Int32 => r = stepS h)) 0 0 (fun _ => False) := by
  refine Met.ofW (cc := cX2_steps) (maxL := 1) (ret := (some .int)) (by decide) rfl ?_
  intro p e s m args below meth c s₁ B0 hml hv
  obtain ⟨rfl, hP, hK, hN⟩ := hv
  have hx := B0.exec
  have hb := B0.bytes
  have hr := B0.returns
  have hts := atoms_spec (ws := wsX2_steps) B0.pre
  have hown : s.vm.findClass RX2 = some m.cls := findClass_of_methodNamed B0.named
  have hlocks := B0.notSynchronized
  have hl := lv_entry ([.int h]) (n := 1) (Nat.le_of_ble_eq_true rfl)
  rw [lg_entry_eq]
  generalize (lg_sl ([.int h]) ++ List.replicate (1 - (lg_sl ([.int h])).length) Slot.unset).toArray = ls at hl ⊢
  have hl : lv_has ls 1 [(0, .int h)] := hl
  refine lv_iload_n hx hb dX2_steps_0 rfl (lv_at hl 0 rfl) ?_
  refine lv_bipush (v := 7) hx hb dX2_steps_1 (by decide) ?_
  refine lv_bipush (v := 17) hx hb dX2_steps_3 (by decide) ?_
  refine vp_callSi (va_Run.run (va_runS (As := [.int h, .int 7, .int 17]) (rest := []) ⟨hx, hb, hml, hown, hts⟩ (c_X2_isIn l D cs h 7 17) (va_cwS 3 hts gX2_steps_X2_isIn rfl rfl rfl (by decide +kernel) ⟨Nat.le_of_ble_eq_true rfl, Nat.le_of_ble_eq_true rfl⟩) (rb_S hK hN trivial) rfl rfl hl.1 rfl (lv_room (Nat.le_of_ble_eq_true rfl)) dX2_steps_5 ⟨Nat.le_of_ble_eq_true rfl, Nat.le_of_ble_eq_true rfl⟩)) (fun r_1 hr_1 => ?_)
  rw [hr_1]
  refine lv_if_eq (tgt := 21) hx hb dX2_steps_8 (by decide) (fun c_2 => ?_) (fun c_2 => ?_)
  · refine lv_iconst (v := 0) hx hb dX2_steps_21 (by decide) ?_
    exact W.iret (v := 0) hx hb hr (fun t ht hW => ⟨_, rfl, (steps_f c_2).symm, ht⟩) (fun q hq => absurd hq List.not_mem_nil) dX2_steps_22
  · refine lv_iload_n hx hb dX2_steps_11 rfl (lv_at hl 0 rfl) ?_
    refine lv_bipush (v := 12) hx hb dX2_steps_12 (by decide) ?_
    refine lv_isub hx hb dX2_steps_14 ?_
    refine va_mabs hx hb (by rw [hml]; exact hl.1.symm) hown (hts (.methodLink RX2 48 Lib.Math.abs.name) (List.mem_of_getElem? (i := 1) (by decide +kernel))) (hts (.static Lib.Math.abs.name) (List.mem_of_getElem? (i := 2) (by decide +kernel))) (hts (.initialized "java/lang/Math") (List.mem_of_getElem? (i := 3) (by decide +kernel))) (hts (.code Lib.Math.abs.name Lib.Math.abs.code 1 (some .int)) (List.mem_of_getElem? (i := 4) (by decide +kernel))) (Nat.le_of_ble_eq_true rfl) (Nat.le_of_ble_eq_true rfl) (Nat.zero_le _) (Nat.zero_le _) dX2_steps_15 ?_
    refine lv_goto (tgt := 22) hx hb dX2_steps_18 (by decide) ?_
    exact W.iret (v := if 0 ≤ h - 12 then h - 12 else 0 - (h - 12)) hx hb hr (fun t ht hW => ⟨_, rfl, (steps_t c_2).symm, ht⟩) (fun q hq => absurd hq List.not_mem_nil) dX2_steps_22
theorem in_X2_worn_X2 : ∀ w ∈ wsX20, w ∈ wsX2_worn := by decide +kernel
set_option maxHeartbeats 4000000 in
set_option maxRecDepth 100000 in
/-- the height of the hat that is worn -/
theorem c_X2_worn (l : Launch) (D : va_G) (cs : Cs) (M : Nat × (Nat → Nat)) (th : Int32) {B : Nat} {σ : PS} (hI : InvS B σ) (i : Nat) (hi : i < sK σ) : Met l yX2_worn wsX2_worn ({ frames := 0, cells := 0, slots := 0, locals := 0 }) (va_Pc [.ref M.1, .int (nI i)] (RBp D cs (va_P D vwCl (modW cs M th σ)))) (vp_Si (fun r : Int32 => r = wornH σ i)) 0 0 (fun _ => False) := by
  refine Met.ofW (cc := cX2_worn) (maxL := 2) (ret := (some .int)) (by decide) rfl ?_
  intro p e s m args below meth c s₁ B0 hml hv
  obtain ⟨rfl, hP, hK, hN⟩ := hv
  have hx := B0.exec
  have hb := B0.bytes
  have hr := B0.returns
  have hts := atoms_spec (ws := wsX2_worn) B0.pre
  have hown : s.vm.findClass RX2 = some m.cls := findClass_of_methodNamed B0.named
  have hlocks := B0.notSynchronized
  have hl := lv_entry ([.ref M.1, .int (nI i)]) (n := 2) (Nat.le_of_ble_eq_true rfl)
  rw [lg_entry_eq]
  generalize (lg_sl ([.ref M.1, .int (nI i)]) ++ List.replicate (2 - (lg_sl ([.ref M.1, .int (nI i)])).length) Slot.unset).toArray = ls at hl ⊢
  have hl : lv_has ls 2 [(0, .ref M.1), (1, .int (nI i))] := hl
  refine lv_aload_n hx hb dX2_worn_0 rfl (lv_at hl 0 rfl) ?_
  refine va_get (D := D) (ci := 3) (v := .ref (M.2 4)) (C := RX2) (T := TX2) (N := 13) hx hb hts in_X2_worn_X2 hown hK hP 0 rfl rfl 9 (by decide) (hts (.fieldLink RX2 22 "ShadowSocietyModel" "wears" "[I") (List.mem_of_getElem? (i := 1) (by decide +kernel))) (fun _ h9 => h9) rfl dX2_worn_1 ?_
  refine lv_iload_n hx hb dX2_worn_4 rfl (lv_at hl 1 rfl) ?_
  refine va_iald hx hb hK hP 5 0 rfl rfl (vp_in_nI (by have := hI.1; omega) (by decide)) dX2_worn_5 ?_
  rw [show (nI i).toNatClampNeg = i from nI_clamp (by have := hI.1; omega)]
  refine lv_iconst (v := (-1)) hx hb dX2_worn_6 (by decide) ?_
  refine lv_icmp_ne (tgt := 14) hx hb dX2_worn_7 (by decide) (fun c_1 => ?_) (fun c_1 => ?_)
  · refine lv_aload_n hx hb dX2_worn_14 rfl (lv_at hl 0 rfl) ?_
    refine va_get (D := D) (ci := 3) (v := .ref (M.2 1)) (C := RX2) (T := TX2) (N := 13) hx hb hts in_X2_worn_X2 hown hK hP 0 rfl rfl 6 (by decide) (hts (.fieldLink RX2 13 "ShadowSocietyModel" "hat" "[I") (List.mem_of_getElem? (i := 2) (by decide +kernel))) (fun _ h9 => h9) rfl dX2_worn_15 ?_
    refine lv_aload_n hx hb dX2_worn_18 rfl (lv_at hl 0 rfl) ?_
    refine va_get (D := D) (ci := 3) (v := .ref (M.2 4)) (C := RX2) (T := TX2) (N := 13) hx hb hts in_X2_worn_X2 hown hK hP 0 rfl rfl 9 (by decide) (hts (.fieldLink RX2 22 "ShadowSocietyModel" "wears" "[I") (List.mem_of_getElem? (i := 1) (by decide +kernel))) (fun _ h9 => h9) rfl dX2_worn_19 ?_
    refine lv_iload_n hx hb dX2_worn_22 rfl (lv_at hl 1 rfl) ?_
    refine va_iald hx hb hK hP 5 0 rfl rfl (vp_in_nI (by have := hI.1; omega) (by decide)) dX2_worn_23 ?_
    rw [show (nI i).toNatClampNeg = i from nI_clamp (by have := hI.1; omega)]
    obtain ⟨j, hj, hw⟩ := wear_ne hI hi c_1
    refine W.eq (g2 := F0 m 24 ls [.int (nI j), .ref (M.2 1)]) (by rw [hw]) ?_
    refine va_iald hx hb hK hP 2 0 rfl rfl (vp_in_nI (by have := hI.1; omega) (by decide)) dX2_worn_24 ?_
    rw [show (nI j).toNatClampNeg = j from nI_clamp (by have := hI.1; omega)]
    exact W.iret (v := sHa σ j) hx hb hr (fun t ht hW => ⟨_, rfl, (wornH_s hI hj hw).symm, ht⟩) (fun q hq => absurd hq List.not_mem_nil) dX2_worn_25
  · refine lv_iconst (v := 0) hx hb dX2_worn_10 (by decide) ?_
    refine lv_goto (tgt := 25) hx hb dX2_worn_11 (by decide) ?_
    exact W.iret (v := 0) hx hb hr (fun t ht hW => ⟨_, rfl, (wornH_n c_1).symm, ht⟩) (fun q hq => absurd hq List.not_mem_nil) dX2_worn_25
theorem in_X2_with_X2 : ∀ w ∈ wsX20, w ∈ wsX2_with := by decide +kernel
set_option maxHeartbeats 4000000 in
set_option maxRecDepth 100000 in
/-- a shadow with a hat -/
theorem c_X2_with (l : Launch) (D : va_G) (cs : Cs) (M : Nat × (Nat → Nat)) (th : Int32) {B : Nat} {σ : PS} (hI : InvS B σ) (i : Nat) (hi : i < sK σ) (x h : Int32) : Met l yX2_with wsX2_with ({ frames := 2, cells := 0, slots := 0, locals := 42 }) (va_Pc [.ref M.1, .int (nI i), .int x, .int h] (RBp D cs (va_P D vwCl (modW cs M th σ)))) (vp_Si (fun r : Int32 => r = natSh (sHe σ i + x) h)) 0 0 (fun _ => False) := by
  refine Met.ofW (cc := cX2_with) (maxL := 4) (ret := (some .int)) (by decide) rfl ?_
  intro p e s m args below meth c s₁ B0 hml hv
  obtain ⟨rfl, hP, hK, hN⟩ := hv
  have hx := B0.exec
  have hb := B0.bytes
  have hr := B0.returns
  have hts := atoms_spec (ws := wsX2_with) B0.pre
  have hown : s.vm.findClass RX2 = some m.cls := findClass_of_methodNamed B0.named
  have hlocks := B0.notSynchronized
  have hl := lv_entry ([.ref M.1, .int (nI i), .int x, .int h]) (n := 4) (Nat.le_of_ble_eq_true rfl)
  rw [lg_entry_eq]
  generalize (lg_sl ([.ref M.1, .int (nI i), .int x, .int h]) ++ List.replicate (4 - (lg_sl ([.ref M.1, .int (nI i), .int x, .int h])).length) Slot.unset).toArray = ls at hl ⊢
  have hl : lv_has ls 4 [(0, .ref M.1), (1, .int (nI i)), (2, .int x), (3, .int h)] := hl
  refine lv_aload_n hx hb dX2_with_0 rfl (lv_at hl 0 rfl) ?_
  refine va_get (D := D) (ci := 3) (v := .ref (M.2 0)) (C := RX2) (T := TX2) (N := 13) hx hb hts in_X2_with_X2 hown hK hP 0 rfl rfl 5 (by decide) (hts (.fieldLink RX2 9 "ShadowSocietyModel" "height" "[I") (List.mem_of_getElem? (i := 1) (by decide +kernel))) (fun _ h9 => h9) rfl dX2_with_1 ?_
  refine lv_iload_n hx hb dX2_with_4 rfl (lv_at hl 1 rfl) ?_
  refine va_iald hx hb hK hP 1 0 rfl rfl (vp_in_nI (by have := hI.1; omega) (by decide)) dX2_with_5 ?_
  rw [show (nI i).toNatClampNeg = i from nI_clamp (by have := hI.1; omega)]
  refine lv_iload_n hx hb dX2_with_6 rfl (lv_at hl 2 rfl) ?_
  refine lv_iadd hx hb dX2_with_7 ?_
  refine lv_iload_n hx hb dX2_with_8 rfl (lv_at hl 3 rfl) ?_
  refine vp_callSi (va_Run.run (va_runS (As := [.int h]) (rest := [.int ((sHe σ i) + x)]) ⟨hx, hb, hml, hown, hts⟩ (c_X2_steps l D cs h) (va_cwS 1 hts gX2_with_X2_steps rfl rfl rfl (by decide +kernel) ⟨Nat.le_of_ble_eq_true rfl, Nat.le_of_ble_eq_true rfl⟩) (rb_S hK hN trivial) rfl rfl hl.1 rfl (lv_room (Nat.le_of_ble_eq_true rfl)) dX2_with_9 ⟨Nat.le_of_ble_eq_true rfl, Nat.le_of_ble_eq_true rfl⟩)) (fun r_1 hr_1 => ?_)
  rw [hr_1]
  refine lv_imul hx hb dX2_with_12 ?_
  refine lv_iconst (v := 2) hx hb dX2_with_13 (by decide) ?_
  refine lv_idiv hx hb dX2_with_14 (by decide) ?_
  exact W.iret (v := (((sHe σ i) + x) * (stepS h)) / 2) hx hb hr (fun t ht hW => ⟨_, rfl, (nat_step _ _), ht⟩) (fun q hq => absurd hq List.not_mem_nil) dX2_with_15
theorem in_X2_shadow_X2 : ∀ w ∈ wsX20, w ∈ wsX2_shadow := by decide +kernel
set_option maxHeartbeats 4000000 in
set_option maxRecDepth 100000 in
/-- the shadow now -/
theorem c_X2_shadow (l : Launch) (D : va_G) (cs : Cs) (M : Nat × (Nat → Nat)) (th : Int32) {B : Nat} {σ : PS} (hI : InvS B σ) (i : Nat) (hi : i < sK σ) : Met l yX2_shadow wsX2_shadow ({ frames := 3, cells := 0, slots := 0, locals := 65 }) (va_Pc [.ref M.1, .int (nI i)] (RBp D cs (va_P D vwCl (modW cs M th σ)))) (vp_Si (fun r : Int32 => r = shadS σ i (dayOf σ))) 0 0 (fun _ => False) := by
  refine Met.ofW (cc := cX2_shadow) (maxL := 2) (ret := (some .int)) (by decide) rfl ?_
  intro p e s m args below meth c s₁ B0 hml hv
  obtain ⟨rfl, hP, hK, hN⟩ := hv
  have hx := B0.exec
  have hb := B0.bytes
  have hr := B0.returns
  have hts := atoms_spec (ws := wsX2_shadow) B0.pre
  have hown : s.vm.findClass RX2 = some m.cls := findClass_of_methodNamed B0.named
  have hlocks := B0.notSynchronized
  have hl := lv_entry ([.ref M.1, .int (nI i)]) (n := 2) (Nat.le_of_ble_eq_true rfl)
  rw [lg_entry_eq]
  generalize (lg_sl ([.ref M.1, .int (nI i)]) ++ List.replicate (2 - (lg_sl ([.ref M.1, .int (nI i)])).length) Slot.unset).toArray = ls at hl ⊢
  have hl : lv_has ls 2 [(0, .ref M.1), (1, .int (nI i))] := hl
  refine lv_aload_n hx hb dX2_shadow_0 rfl (lv_at hl 0 rfl) ?_
  refine lv_iload_n hx hb dX2_shadow_1 rfl (lv_at hl 1 rfl) ?_
  refine lv_aload_n hx hb dX2_shadow_2 rfl (lv_at hl 0 rfl) ?_
  refine lv_iload_n hx hb dX2_shadow_3 rfl (lv_at hl 1 rfl) ?_
  refine vp_callSi (va_Run.run (va_runV (As := [.int (nI i)]) (rest := [.int (nI i), .ref M.1]) ⟨hx, hb, hml, hown, hts⟩ (c_X2_worn l D cs M th hI i hi) (cwV 1 hts gX2_shadow_X2_worn rfl rfl rfl (by decide +kernel) ⟨Nat.le_of_ble_eq_true rfl, Nat.le_of_ble_eq_true rfl⟩) (rb_V hK hN hP (va_recv hK hP (ci := 3) (q0 := 0) rfl rfl)) rfl rfl hl.1 rfl (lv_room (Nat.le_of_ble_eq_true rfl)) dX2_shadow_4 ⟨Nat.le_of_ble_eq_true rfl, Nat.le_of_ble_eq_true rfl⟩)) (fun r_1 hr_1 => ?_)
  rw [hr_1]
  refine lv_aload_n hx hb dX2_shadow_7 rfl (lv_at hl 0 rfl) ?_
  refine vp_callSi (va_Run.run (va_runV (As := []) (rest := [.int (wornH σ i), .int (nI i), .ref M.1]) ⟨hx, hb, hml, hown, hts⟩ (c_X2_ofDay l D cs M th hI) (cwV 0 hts gX2_shadow_X2_ofDay rfl rfl rfl (by decide +kernel) ⟨Nat.le_of_ble_eq_true rfl, Nat.le_of_ble_eq_true rfl⟩) (rb_V hK hN hP (va_recv hK hP (ci := 3) (q0 := 0) rfl rfl)) rfl rfl hl.1 rfl (lv_room (Nat.le_of_ble_eq_true rfl)) dX2_shadow_8 ⟨Nat.le_of_ble_eq_true rfl, Nat.le_of_ble_eq_true rfl⟩)) (fun r_2 hr_2 => ?_)
  rw [hr_2]
  refine vp_callSi (va_Run.run (va_runV (As := [.int (nI i), .int (wornH σ i), .int (dayOf σ)]) (rest := []) ⟨hx, hb, hml, hown, hts⟩ (c_X2_with l D cs M th hI i hi (wornH σ i) (dayOf σ)) (cwV 3 hts gX2_shadow_X2_with rfl rfl rfl (by decide +kernel) ⟨Nat.le_of_ble_eq_true rfl, Nat.le_of_ble_eq_true rfl⟩) (rb_V hK hN hP (va_recv hK hP (ci := 3) (q0 := 0) rfl rfl)) rfl rfl hl.1 rfl (lv_room (Nat.le_of_ble_eq_true rfl)) dX2_shadow_11 ⟨Nat.le_of_ble_eq_true rfl, Nat.le_of_ble_eq_true rfl⟩)) (fun r_3 hr_3 => ?_)
  rw [hr_3]
  refine lv_iconst (v := 3) hx hb dX2_shadow_14 (by decide) ?_
  refine lv_aload_n hx hb dX2_shadow_15 rfl (lv_at hl 0 rfl) ?_
  refine va_get (D := D) (ci := 3) (v := .ref (M.2 3)) (C := RX2) (T := TX2) (N := 13) hx hb hts in_X2_shadow_X2 hown hK hP 0 rfl rfl 8 (by decide) (hts (.fieldLink RX2 19 "ShadowSocietyModel" "lamp" "[I") (List.mem_of_getElem? (i := 1) (by decide +kernel))) (fun _ h9 => h9) rfl dX2_shadow_16 ?_
  refine lv_iload_n hx hb dX2_shadow_19 rfl (lv_at hl 1 rfl) ?_
  refine va_iald hx hb hK hP 4 0 rfl rfl (vp_in_nI (by have := hI.1; omega) (by decide)) dX2_shadow_20 ?_
  rw [show (nI i).toNatClampNeg = i from nI_clamp (by have := hI.1; omega)]
  refine lv_imul hx hb dX2_shadow_21 ?_
  refine lv_iadd hx hb dX2_shadow_22 ?_
  exact W.iret (v := (natSh (sHe σ i + (wornH σ i)) (dayOf σ)) + (3 * (sLa σ i))) hx hb hr (fun t ht hW => ⟨_, rfl, rfl, ht⟩) (fun q hq => absurd hq List.not_mem_nil) dX2_shadow_23
theorem in_X2_honest_X2 : ∀ w ∈ wsX20, w ∈ wsX2_honest := by decide +kernel
set_option maxHeartbeats 4000000 in
set_option maxRecDepth 100000 in
/-- the honest shadow -/
theorem c_X2_honest (l : Launch) (D : va_G) (cs : Cs) (M : Nat × (Nat → Nat)) (th : Int32) {B : Nat} {σ : PS} (hI : InvS B σ) (i : Nat) (hi : i < sK σ) (h : Int32) : Met l yX2_honest wsX2_honest ({ frames := 3, cells := 0, slots := 0, locals := 65 }) (va_Pc [.ref M.1, .int (nI i), .int h] (RBp D cs (va_P D vwCl (modW cs M th σ)))) (vp_Si (fun r : Int32 => r = honsS σ i h)) 0 0 (fun _ => False) := by
  refine Met.ofW (cc := cX2_honest) (maxL := 3) (ret := (some .int)) (by decide) rfl ?_
  intro p e s m args below meth c s₁ B0 hml hv
  obtain ⟨rfl, hP, hK, hN⟩ := hv
  have hx := B0.exec
  have hb := B0.bytes
  have hr := B0.returns
  have hts := atoms_spec (ws := wsX2_honest) B0.pre
  have hown : s.vm.findClass RX2 = some m.cls := findClass_of_methodNamed B0.named
  have hlocks := B0.notSynchronized
  have hl := lv_entry ([.ref M.1, .int (nI i), .int h]) (n := 3) (Nat.le_of_ble_eq_true rfl)
  rw [lg_entry_eq]
  generalize (lg_sl ([.ref M.1, .int (nI i), .int h]) ++ List.replicate (3 - (lg_sl ([.ref M.1, .int (nI i), .int h])).length) Slot.unset).toArray = ls at hl ⊢
  have hl : lv_has ls 3 [(0, .ref M.1), (1, .int (nI i)), (2, .int h)] := hl
  refine lv_aload_n hx hb dX2_honest_0 rfl (lv_at hl 0 rfl) ?_
  refine lv_iload_n hx hb dX2_honest_1 rfl (lv_at hl 1 rfl) ?_
  refine lv_aload_n hx hb dX2_honest_2 rfl (lv_at hl 0 rfl) ?_
  refine va_get (D := D) (ci := 3) (v := .ref (M.2 1)) (C := RX2) (T := TX2) (N := 13) hx hb hts in_X2_honest_X2 hown hK hP 0 rfl rfl 6 (by decide) (hts (.fieldLink RX2 13 "ShadowSocietyModel" "hat" "[I") (List.mem_of_getElem? (i := 1) (by decide +kernel))) (fun _ h9 => h9) rfl dX2_honest_3 ?_
  refine lv_iload_n hx hb dX2_honest_6 rfl (lv_at hl 1 rfl) ?_
  refine va_iald hx hb hK hP 2 0 rfl rfl (vp_in_nI (by have := hI.1; omega) (by decide)) dX2_honest_7 ?_
  rw [show (nI i).toNatClampNeg = i from nI_clamp (by have := hI.1; omega)]
  refine lv_iload_n hx hb dX2_honest_8 rfl (lv_at hl 2 rfl) ?_
  refine vp_callSi (va_Run.run (va_runV (As := [.int (nI i), .int (sHa σ i), .int h]) (rest := []) ⟨hx, hb, hml, hown, hts⟩ (c_X2_with l D cs M th hI i hi (sHa σ i) h) (cwV 3 hts gX2_honest_X2_with rfl rfl rfl (by decide +kernel) ⟨Nat.le_of_ble_eq_true rfl, Nat.le_of_ble_eq_true rfl⟩) (rb_V hK hN hP (va_recv hK hP (ci := 3) (q0 := 0) rfl rfl)) rfl rfl hl.1 rfl (lv_room (Nat.le_of_ble_eq_true rfl)) dX2_honest_9 ⟨Nat.le_of_ble_eq_true rfl, Nat.le_of_ble_eq_true rfl⟩)) (fun r_1 hr_1 => ?_)
  rw [hr_1]
  exact W.iret (v := natSh (sHe σ i + (sHa σ i)) h) hx hb hr (fun t ht hW => ⟨_, rfl, rfl, ht⟩) (fun q hq => absurd hq List.not_mem_nil) dX2_honest_12
theorem in_X2_isTrue_X2 : ∀ w ∈ wsX20, w ∈ wsX2_isTrue := by decide +kernel
set_option maxHeartbeats 4000000 in
set_option maxRecDepth 100000 in
/-- is the certificate honest -/
theorem c_X2_isTrue (l : Launch) (D : va_G) (cs : Cs) (M : Nat × (Nat → Nat)) (th : Int32) {B : Nat} {σ : PS} (hI : InvS B σ) (i : Nat) (hi : i < sK σ) : Met l yX2_isTrue wsX2_isTrue ({ frames := 4, cells := 0, slots := 0, locals := 87 }) (va_Pc [.ref M.1, .int (nI i)] (RBp D cs (va_P D vwCl (modW cs M th σ)))) (vp_Si (fun r : Int32 => r = b01 (truC σ i))) 0 0 (fun _ => False) := by
  refine Met.ofW (cc := cX2_isTrue) (maxL := 2) (ret := (some .boolean)) (by decide) rfl ?_
  intro p e s m args below meth c s₁ B0 hml hv
  obtain ⟨rfl, hP, hK, hN⟩ := hv
  have hx := B0.exec
  have hb := B0.bytes
  have hr := B0.returns
  have hts := atoms_spec (ws := wsX2_isTrue) B0.pre
  have hown : s.vm.findClass RX2 = some m.cls := findClass_of_methodNamed B0.named
  have hlocks := B0.notSynchronized
  have hl := lv_entry ([.ref M.1, .int (nI i)]) (n := 2) (Nat.le_of_ble_eq_true rfl)
  rw [lg_entry_eq]
  generalize (lg_sl ([.ref M.1, .int (nI i)]) ++ List.replicate (2 - (lg_sl ([.ref M.1, .int (nI i)])).length) Slot.unset).toArray = ls at hl ⊢
  have hl : lv_has ls 2 [(0, .ref M.1), (1, .int (nI i))] := hl
  refine lv_aload_n hx hb dX2_isTrue_0 rfl (lv_at hl 0 rfl) ?_
  refine va_get (D := D) (ci := 3) (v := .ref (M.2 5)) (C := RX2) (T := TX2) (N := 13) hx hb hts in_X2_isTrue_X2 hown hK hP 0 rfl rfl 10 (by decide) (hts (.fieldLink RX2 25 "ShadowSocietyModel" "length" "[I") (List.mem_of_getElem? (i := 1) (by decide +kernel))) (fun _ h9 => h9) rfl dX2_isTrue_1 ?_
  refine lv_iload_n hx hb dX2_isTrue_4 rfl (lv_at hl 1 rfl) ?_
  refine va_iald hx hb hK hP 6 0 rfl rfl (vp_in_nI (by have := hI.1; omega) (by decide)) dX2_isTrue_5 ?_
  rw [show (nI i).toNatClampNeg = i from nI_clamp (by have := hI.1; omega)]
  refine lv_aload_n hx hb dX2_isTrue_6 rfl (lv_at hl 0 rfl) ?_
  refine lv_iload_n hx hb dX2_isTrue_7 rfl (lv_at hl 1 rfl) ?_
  refine lv_aload_n hx hb dX2_isTrue_8 rfl (lv_at hl 0 rfl) ?_
  refine va_get (D := D) (ci := 3) (v := .ref (M.2 6)) (C := RX2) (T := TX2) (N := 13) hx hb hts in_X2_isTrue_X2 hown hK hP 0 rfl rfl 11 (by decide) (hts (.fieldLink RX2 28 "ShadowSocietyModel" "at" "[I") (List.mem_of_getElem? (i := 2) (by decide +kernel))) (fun _ h9 => h9) rfl dX2_isTrue_9 ?_
  refine lv_iload_n hx hb dX2_isTrue_12 rfl (lv_at hl 1 rfl) ?_
  refine va_iald hx hb hK hP 7 0 rfl rfl (vp_in_nI (by have := hI.1; omega) (by decide)) dX2_isTrue_13 ?_
  rw [show (nI i).toNatClampNeg = i from nI_clamp (by have := hI.1; omega)]
  refine vp_callSi (va_Run.run (va_runV (As := [.int (nI i), .int (sAt σ i)]) (rest := [.int (sCe σ i)]) ⟨hx, hb, hml, hown, hts⟩ (c_X2_honest l D cs M th hI i hi (sAt σ i)) (cwV 2 hts gX2_isTrue_X2_honest rfl rfl rfl (by decide +kernel) ⟨Nat.le_of_ble_eq_true rfl, Nat.le_of_ble_eq_true rfl⟩) (rb_V hK hN hP (va_recv hK hP (ci := 3) (q0 := 0) rfl rfl)) rfl rfl hl.1 rfl (lv_room (Nat.le_of_ble_eq_true rfl)) dX2_isTrue_14 ⟨Nat.le_of_ble_eq_true rfl, Nat.le_of_ble_eq_true rfl⟩)) (fun r_1 hr_1 => ?_)
  rw [hr_1]
  refine lv_icmp_ne (tgt := 24) hx hb dX2_isTrue_17 (by decide) (fun c_2 => ?_) (fun c_2 => ?_)
  · refine lv_iconst (v := 0) hx hb dX2_isTrue_24 (by decide) ?_
    exact W.zret (ty := .boolean) (v := 0) hx hb hr rfl (fun t ht hW => ⟨_, rfl, (b01_f c_2).symm, ht⟩) (fun q hq => absurd hq List.not_mem_nil) dX2_isTrue_25
  · refine lv_iconst (v := 1) hx hb dX2_isTrue_20 (by decide) ?_
    refine lv_goto (tgt := 25) hx hb dX2_isTrue_21 (by decide) ?_
    exact W.zret (ty := .boolean) (v := 1) hx hb hr rfl (fun t ht hW => ⟨_, rfl, (b01_t c_2).symm, ht⟩) (fun q hq => absurd hq List.not_mem_nil) dX2_isTrue_25
theorem in_X2_hasLentOut_X2 : ∀ w ∈ wsX20, w ∈ wsX2_hasLentOut := by decide +kernel
set_option maxHeartbeats 4000000 in
set_option maxRecDepth 100000 in
/-- is the hat lent -/
theorem c_X2_hasLentOut (l : Launch) (D : va_G) (cs : Cs) (M : Nat × (Nat → Nat)) (th : Int32) {B : Nat} {σ : PS} (hI : InvS B σ) (i : Nat) (hi : i < sK σ) : Met l yX2_hasLentOut wsX2_hasLentOut ({ frames := 0, cells := 0, slots := 0, locals := 0 }) (va_Pc [.ref M.1, .int (nI i)] (RBp D cs (va_P D vwCl (modW cs M th σ)))) (vp_Si (fun r : Int32 => r = b01 (lentS σ i))) 0 0 (fun _ => False) := by
  refine Met.ofW (cc := cX2_hasLentOut) (maxL := 3) (ret := (some .boolean)) (by decide) rfl ?_
  intro p e s m args below meth c s₁ B0 hml hv
  obtain ⟨rfl, hP, hK, hN⟩ := hv
  have hx := B0.exec
  have hb := B0.bytes
  have hr := B0.returns
  have hts := atoms_spec (ws := wsX2_hasLentOut) B0.pre
  have hown : s.vm.findClass RX2 = some m.cls := findClass_of_methodNamed B0.named
  have hlocks := B0.notSynchronized
  have hl := lv_entry ([.ref M.1, .int (nI i)]) (n := 3) (Nat.le_of_ble_eq_true rfl)
  rw [lg_entry_eq]
  generalize (lg_sl ([.ref M.1, .int (nI i)]) ++ List.replicate (3 - (lg_sl ([.ref M.1, .int (nI i)])).length) Slot.unset).toArray = ls at hl ⊢
  have hl : lv_has ls 3 [(0, .ref M.1), (1, .int (nI i))] := hl
  refine lv_iconst (v := 0) hx hb dX2_hasLentOut_0 (by decide) ?_
  refine lv_istore_n (lv' := [(2, .int 0), (0, .ref M.1), (1, .int (nI i))]) hx hb dX2_hasLentOut_1 rfl hl (by decide) rfl (fun ls hl => ?_)
  refine lv_for (sK σ) (fun ls => F0 m 2 ls []) (fun n9 => [(0, .ref M.1), (1, .int (nI i)), (2, .int (nI n9))]) (fun n => ∀ j, j < n → ¬ (¬ j = i ∧ sWe σ j = nI i)) (show lv_has ls 3 [(0, .ref M.1), (1, .int (nI i)), (2, .int (nI 0))] from lv_sub hl [1, 2, 0] rfl) (lt_0) (fun n9 ls hn9 hj9 hl K9 => ?_) (fun ls hj9 hl => ?_)
  · have hl : lv_has ls 3 [(0, .ref M.1), (1, .int (nI i)), (2, .int (nI n9))] := hl
    refine lv_iload_n hx hb dX2_hasLentOut_2 rfl (lv_at hl 2 rfl) ?_
    refine lv_aload_n hx hb dX2_hasLentOut_3 rfl (lv_at hl 0 rfl) ?_
    refine va_get (D := D) (ci := 3) (v := .int (nI (sK σ))) (C := RX2) (T := TX2) (N := 13) hx hb hts in_X2_hasLentOut_X2 hown hK hP 0 rfl rfl 1 (by decide) (hts (.fieldLink RX2 38 "ShadowSocietyModel" "members" "I") (List.mem_of_getElem? (i := 1) (by decide +kernel))) (fun _ h9 => h9) rfl dX2_hasLentOut_4 ?_
    refine lv_icmp_ge (tgt := 33) hx hb dX2_hasLentOut_7 (by decide) (fun c9 => absurd c9 (nI_ge hn9 (by have := hI.1; omega))) (fun _ => ?_)
    refine lv_iload_n hx hb dX2_hasLentOut_10 rfl (lv_at hl 2 rfl) ?_
    refine lv_iload_n hx hb dX2_hasLentOut_11 rfl (lv_at hl 1 rfl) ?_
    refine lv_icmp_eq (tgt := 27) hx hb dX2_hasLentOut_12 (by decide) (fun c_1 => ?_) (fun c_1 => ?_)
    · refine lv_iinc (v := nI (n9 + 1)) (lv' := [(2, .int (nI (n9 + 1))), (0, .ref M.1), (1, .int (nI i))]) hx hb dX2_hasLentOut_27 hl (k := 2) rfl (nI_add _ 1) (by decide) rfl (fun ls hl => ?_)
      refine lv_goto (tgt := 2) hx hb dX2_hasLentOut_30 (by decide) ?_
      refine K9 ls (lt_s hj9 (fun q => q.1 ((nI_eq (by have := hI.1; omega) (by have := hI.1; omega)).mp c_1))) ?_
      show lv_has ls 3 [(0, .ref M.1), (1, .int (nI i)), (2, .int (nI (n9 + 1)))]
      exact lv_sub hl [1, 2, 0] rfl
    · refine lv_aload_n hx hb dX2_hasLentOut_15 rfl (lv_at hl 0 rfl) ?_
      refine va_get (D := D) (ci := 3) (v := .ref (M.2 4)) (C := RX2) (T := TX2) (N := 13) hx hb hts in_X2_hasLentOut_X2 hown hK hP 0 rfl rfl 9 (by decide) (hts (.fieldLink RX2 22 "ShadowSocietyModel" "wears" "[I") (List.mem_of_getElem? (i := 2) (by decide +kernel))) (fun _ h9 => h9) rfl dX2_hasLentOut_16 ?_
      refine lv_iload_n hx hb dX2_hasLentOut_19 rfl (lv_at hl 2 rfl) ?_
      refine va_iald hx hb hK hP 5 0 rfl rfl (vp_in_nI (by have := hI.1; omega) (by decide)) dX2_hasLentOut_20 ?_
      rw [show (nI n9).toNatClampNeg = n9 from nI_clamp (by have := hI.1; omega)]
      refine lv_iload_n hx hb dX2_hasLentOut_21 rfl (lv_at hl 1 rfl) ?_
      refine lv_icmp_ne (tgt := 27) hx hb dX2_hasLentOut_22 (by decide) (fun c_2 => ?_) (fun c_2 => ?_)
      · refine lv_iinc (v := nI (n9 + 1)) (lv' := [(2, .int (nI (n9 + 1))), (0, .ref M.1), (1, .int (nI i))]) hx hb dX2_hasLentOut_27 hl (k := 2) rfl (nI_add _ 1) (by decide) rfl (fun ls hl => ?_)
        refine lv_goto (tgt := 2) hx hb dX2_hasLentOut_30 (by decide) ?_
        refine K9 ls (lt_s hj9 (fun q => c_2 q.2)) ?_
        show lv_has ls 3 [(0, .ref M.1), (1, .int (nI i)), (2, .int (nI (n9 + 1)))]
        exact lv_sub hl [1, 2, 0] rfl
      · refine lv_iconst (v := 1) hx hb dX2_hasLentOut_25 (by decide) ?_
        exact W.zret (ty := .boolean) (v := 1) hx hb hr rfl (fun t ht hW => ⟨_, rfl, (b01_t ⟨n9, hn9, (fun q => c_1 (by rw [q])), c_2⟩).symm, ht⟩) (fun q hq => absurd hq List.not_mem_nil) dX2_hasLentOut_26
  · have hl : lv_has ls 3 [(0, .ref M.1), (1, .int (nI i)), (2, .int (nI (sK σ)))] := hl
    refine lv_iload_n hx hb dX2_hasLentOut_2 rfl (lv_at hl 2 rfl) ?_
    refine lv_aload_n hx hb dX2_hasLentOut_3 rfl (lv_at hl 0 rfl) ?_
    refine va_get (D := D) (ci := 3) (v := .int (nI (sK σ))) (C := RX2) (T := TX2) (N := 13) hx hb hts in_X2_hasLentOut_X2 hown hK hP 0 rfl rfl 1 (by decide) (hts (.fieldLink RX2 38 "ShadowSocietyModel" "members" "I") (List.mem_of_getElem? (i := 1) (by decide +kernel))) (fun _ h9 => h9) rfl dX2_hasLentOut_4 ?_
    refine lv_icmp_ge (tgt := 33) hx hb dX2_hasLentOut_7 (by decide) (fun _ => ?_) (fun c9 => absurd (nI_le (Nat.le_refl _) (by have := hI.1; omega)) c9)
    refine lv_iconst (v := 0) hx hb dX2_hasLentOut_33 (by decide) ?_
    exact W.zret (ty := .boolean) (v := 0) hx hb hr rfl (fun t ht hW => ⟨_, rfl, (b01_f (fun ⟨j, h1, h2, h3⟩ => hj9 j h1 ⟨h2, h3⟩)).symm, ht⟩) (fun q hq => absurd hq List.not_mem_nil) dX2_hasLentOut_34
theorem in_X2_borrows_X2 : ∀ w ∈ wsX20, w ∈ wsX2_borrows := by decide +kernel
set_option maxHeartbeats 4000000 in
set_option maxRecDepth 100000 in
/-- wears a borrowed hat -/
theorem c_X2_borrows (l : Launch) (D : va_G) (cs : Cs) (M : Nat × (Nat → Nat)) (th : Int32) {B : Nat} {σ : PS} (hI : InvS B σ) (i : Nat) (hi : i < sK σ) : Met l yX2_borrows wsX2_borrows ({ frames := 0, cells := 0, slots := 0, locals := 0 }) (va_Pc [.ref M.1, .int (nI i)] (RBp D cs (va_P D vwCl (modW cs M th σ)))) (vp_Si (fun r : Int32 => r = b01 (wBor σ i))) 0 0 (fun _ => False) := by
  refine Met.ofW (cc := cX2_borrows) (maxL := 2) (ret := (some .boolean)) (by decide) rfl ?_
  intro p e s m args below meth c s₁ B0 hml hv
  obtain ⟨rfl, hP, hK, hN⟩ := hv
  have hx := B0.exec
  have hb := B0.bytes
  have hr := B0.returns
  have hts := atoms_spec (ws := wsX2_borrows) B0.pre
  have hown : s.vm.findClass RX2 = some m.cls := findClass_of_methodNamed B0.named
  have hlocks := B0.notSynchronized
  have hl := lv_entry ([.ref M.1, .int (nI i)]) (n := 2) (Nat.le_of_ble_eq_true rfl)
  rw [lg_entry_eq]
  generalize (lg_sl ([.ref M.1, .int (nI i)]) ++ List.replicate (2 - (lg_sl ([.ref M.1, .int (nI i)])).length) Slot.unset).toArray = ls at hl ⊢
  have hl : lv_has ls 2 [(0, .ref M.1), (1, .int (nI i))] := hl
  refine lv_aload_n hx hb dX2_borrows_0 rfl (lv_at hl 0 rfl) ?_
  refine va_get (D := D) (ci := 3) (v := .ref (M.2 4)) (C := RX2) (T := TX2) (N := 13) hx hb hts in_X2_borrows_X2 hown hK hP 0 rfl rfl 9 (by decide) (hts (.fieldLink RX2 22 "ShadowSocietyModel" "wears" "[I") (List.mem_of_getElem? (i := 1) (by decide +kernel))) (fun _ h9 => h9) rfl dX2_borrows_1 ?_
  refine lv_iload_n hx hb dX2_borrows_4 rfl (lv_at hl 1 rfl) ?_
  refine va_iald hx hb hK hP 5 0 rfl rfl (vp_in_nI (by have := hI.1; omega) (by decide)) dX2_borrows_5 ?_
  rw [show (nI i).toNatClampNeg = i from nI_clamp (by have := hI.1; omega)]
  refine lv_iconst (v := (-1)) hx hb dX2_borrows_6 (by decide) ?_
  refine lv_icmp_eq (tgt := 24) hx hb dX2_borrows_7 (by decide) (fun c_1 => ?_) (fun c_1 => ?_)
  · refine lv_iconst (v := 0) hx hb dX2_borrows_24 (by decide) ?_
    exact W.zret (ty := .boolean) (v := 0) hx hb hr rfl (fun t ht hW => ⟨_, rfl, (b01_f (fun q => q.1 c_1)).symm, ht⟩) (fun q hq => absurd hq List.not_mem_nil) dX2_borrows_25
  · refine lv_aload_n hx hb dX2_borrows_10 rfl (lv_at hl 0 rfl) ?_
    refine va_get (D := D) (ci := 3) (v := .ref (M.2 4)) (C := RX2) (T := TX2) (N := 13) hx hb hts in_X2_borrows_X2 hown hK hP 0 rfl rfl 9 (by decide) (hts (.fieldLink RX2 22 "ShadowSocietyModel" "wears" "[I") (List.mem_of_getElem? (i := 1) (by decide +kernel))) (fun _ h9 => h9) rfl dX2_borrows_11 ?_
    refine lv_iload_n hx hb dX2_borrows_14 rfl (lv_at hl 1 rfl) ?_
    refine va_iald hx hb hK hP 5 0 rfl rfl (vp_in_nI (by have := hI.1; omega) (by decide)) dX2_borrows_15 ?_
    rw [show (nI i).toNatClampNeg = i from nI_clamp (by have := hI.1; omega)]
    refine lv_iload_n hx hb dX2_borrows_16 rfl (lv_at hl 1 rfl) ?_
    refine lv_icmp_eq (tgt := 24) hx hb dX2_borrows_17 (by decide) (fun c_2 => ?_) (fun c_2 => ?_)
    · refine lv_iconst (v := 0) hx hb dX2_borrows_24 (by decide) ?_
      exact W.zret (ty := .boolean) (v := 0) hx hb hr rfl (fun t ht hW => ⟨_, rfl, (b01_f (fun q => q.2 c_2)).symm, ht⟩) (fun q hq => absurd hq List.not_mem_nil) dX2_borrows_25
    · refine lv_iconst (v := 1) hx hb dX2_borrows_20 (by decide) ?_
      refine lv_goto (tgt := 25) hx hb dX2_borrows_21 (by decide) ?_
      exact W.zret (ty := .boolean) (v := 1) hx hb hr rfl (fun t ht hW => ⟨_, rfl, (b01_t ⟨c_1, c_2⟩).symm, ht⟩) (fun q hq => absurd hq List.not_mem_nil) dX2_borrows_25
theorem in_X2_canLend_X2 : ∀ w ∈ wsX20, w ∈ wsX2_canLend := by decide +kernel
set_option maxHeartbeats 4000000 in
set_option maxRecDepth 100000 in
/-- can the hat be lent -/
theorem c_X2_canLend (l : Launch) (D : va_G) (cs : Cs) (M : Nat × (Nat → Nat)) (th : Int32) {B : Nat} {σ : PS} (hI : InvS B σ) (i : Nat) (hi : i < sK σ) : Met l yX2_canLend wsX2_canLend ({ frames := 0, cells := 0, slots := 0, locals := 0 }) (va_Pc [.ref M.1, .int (nI i)] (RBp D cs (va_P D vwCl (modW cs M th σ)))) (vp_Si (fun r : Int32 => r = b01 (0 < sHa σ i ∧ wOwn σ i))) 0 0 (fun _ => False) := by
  refine Met.ofW (cc := cX2_canLend) (maxL := 2) (ret := (some .boolean)) (by decide) rfl ?_
  intro p e s m args below meth c s₁ B0 hml hv
  obtain ⟨rfl, hP, hK, hN⟩ := hv
  have hx := B0.exec
  have hb := B0.bytes
  have hr := B0.returns
  have hts := atoms_spec (ws := wsX2_canLend) B0.pre
  have hown : s.vm.findClass RX2 = some m.cls := findClass_of_methodNamed B0.named
  have hlocks := B0.notSynchronized
  have hl := lv_entry ([.ref M.1, .int (nI i)]) (n := 2) (Nat.le_of_ble_eq_true rfl)
  rw [lg_entry_eq]
  generalize (lg_sl ([.ref M.1, .int (nI i)]) ++ List.replicate (2 - (lg_sl ([.ref M.1, .int (nI i)])).length) Slot.unset).toArray = ls at hl ⊢
  have hl : lv_has ls 2 [(0, .ref M.1), (1, .int (nI i))] := hl
  refine lv_aload_n hx hb dX2_canLend_0 rfl (lv_at hl 0 rfl) ?_
  refine va_get (D := D) (ci := 3) (v := .ref (M.2 1)) (C := RX2) (T := TX2) (N := 13) hx hb hts in_X2_canLend_X2 hown hK hP 0 rfl rfl 6 (by decide) (hts (.fieldLink RX2 13 "ShadowSocietyModel" "hat" "[I") (List.mem_of_getElem? (i := 1) (by decide +kernel))) (fun _ h9 => h9) rfl dX2_canLend_1 ?_
  refine lv_iload_n hx hb dX2_canLend_4 rfl (lv_at hl 1 rfl) ?_
  refine va_iald hx hb hK hP 2 0 rfl rfl (vp_in_nI (by have := hI.1; omega) (by decide)) dX2_canLend_5 ?_
  rw [show (nI i).toNatClampNeg = i from nI_clamp (by have := hI.1; omega)]
  refine lv_if_le (tgt := 23) hx hb dX2_canLend_6 (by decide) (fun c_1 => ?_) (fun c_1 => ?_)
  · refine lv_iconst (v := 0) hx hb dX2_canLend_23 (by decide) ?_
    exact W.zret (ty := .boolean) (v := 0) hx hb hr rfl (fun t ht hW => ⟨_, rfl, (b01_f (fun q => Int32.not_le.mpr q.1 c_1)).symm, ht⟩) (fun q hq => absurd hq List.not_mem_nil) dX2_canLend_24
  · refine lv_aload_n hx hb dX2_canLend_9 rfl (lv_at hl 0 rfl) ?_
    refine va_get (D := D) (ci := 3) (v := .ref (M.2 4)) (C := RX2) (T := TX2) (N := 13) hx hb hts in_X2_canLend_X2 hown hK hP 0 rfl rfl 9 (by decide) (hts (.fieldLink RX2 22 "ShadowSocietyModel" "wears" "[I") (List.mem_of_getElem? (i := 2) (by decide +kernel))) (fun _ h9 => h9) rfl dX2_canLend_10 ?_
    refine lv_iload_n hx hb dX2_canLend_13 rfl (lv_at hl 1 rfl) ?_
    refine va_iald hx hb hK hP 5 0 rfl rfl (vp_in_nI (by have := hI.1; omega) (by decide)) dX2_canLend_14 ?_
    rw [show (nI i).toNatClampNeg = i from nI_clamp (by have := hI.1; omega)]
    refine lv_iload_n hx hb dX2_canLend_15 rfl (lv_at hl 1 rfl) ?_
    refine lv_icmp_ne (tgt := 23) hx hb dX2_canLend_16 (by decide) (fun c_2 => ?_) (fun c_2 => ?_)
    · refine lv_iconst (v := 0) hx hb dX2_canLend_23 (by decide) ?_
      exact W.zret (ty := .boolean) (v := 0) hx hb hr rfl (fun t ht hW => ⟨_, rfl, (b01_f (fun q => c_2 q.2)).symm, ht⟩) (fun q hq => absurd hq List.not_mem_nil) dX2_canLend_24
    · refine lv_iconst (v := 1) hx hb dX2_canLend_19 (by decide) ?_
      refine lv_goto (tgt := 24) hx hb dX2_canLend_20 (by decide) ?_
      exact W.zret (ty := .boolean) (v := 1) hx hb hr rfl (fun t ht hW => ⟨_, rfl, (b01_t ⟨Int32.not_le.mp c_1, c_2⟩).symm, ht⟩) (fun q hq => absurd hq List.not_mem_nil) dX2_canLend_24
theorem in_X2_own_X2 : ∀ w ∈ wsX20, w ∈ wsX2_own := by decide +kernel
set_option maxHeartbeats 4000000 in
set_option maxRecDepth 100000 in
/-- the own hat -/
theorem c_X2_own (l : Launch) (D : va_G) (cs : Cs) (M : Nat × (Nat → Nat)) (th : Int32) {σ : PS} (hI : sK σ ≤ 10 ∧ True) (i : Nat) (hi : i < sK σ) : Met l yX2_own wsX2_own ({ frames := 0, cells := 0, slots := 0, locals := 0 }) (va_Pc [.ref M.1, .int (nI i)] (RBp D cs (va_P D vwCl (modW cs M th σ)))) (vp_Si (fun r : Int32 => r = ownH σ i)) 0 0 (fun _ => False) := by
  refine Met.ofW (cc := cX2_own) (maxL := 2) (ret := (some .int)) (by decide) rfl ?_
  intro p e s m args below meth c s₁ B0 hml hv
  obtain ⟨rfl, hP, hK, hN⟩ := hv
  have hx := B0.exec
  have hb := B0.bytes
  have hr := B0.returns
  have hts := atoms_spec (ws := wsX2_own) B0.pre
  have hown : s.vm.findClass RX2 = some m.cls := findClass_of_methodNamed B0.named
  have hlocks := B0.notSynchronized
  have hl := lv_entry ([.ref M.1, .int (nI i)]) (n := 2) (Nat.le_of_ble_eq_true rfl)
  rw [lg_entry_eq]
  generalize (lg_sl ([.ref M.1, .int (nI i)]) ++ List.replicate (2 - (lg_sl ([.ref M.1, .int (nI i)])).length) Slot.unset).toArray = ls at hl ⊢
  have hl : lv_has ls 2 [(0, .ref M.1), (1, .int (nI i))] := hl
  refine lv_aload_n hx hb dX2_own_0 rfl (lv_at hl 0 rfl) ?_
  refine va_get (D := D) (ci := 3) (v := .ref (M.2 1)) (C := RX2) (T := TX2) (N := 13) hx hb hts in_X2_own_X2 hown hK hP 0 rfl rfl 6 (by decide) (hts (.fieldLink RX2 13 "ShadowSocietyModel" "hat" "[I") (List.mem_of_getElem? (i := 1) (by decide +kernel))) (fun _ h9 => h9) rfl dX2_own_1 ?_
  refine lv_iload_n hx hb dX2_own_4 rfl (lv_at hl 1 rfl) ?_
  refine va_iald hx hb hK hP 2 0 rfl rfl (vp_in_nI (by have := hI.1; omega) (by decide)) dX2_own_5 ?_
  rw [show (nI i).toNatClampNeg = i from nI_clamp (by have := hI.1; omega)]
  refine lv_if_le (tgt := 13) hx hb dX2_own_6 (by decide) (fun c_1 => ?_) (fun c_1 => ?_)
  · refine lv_iconst (v := (-1)) hx hb dX2_own_13 (by decide) ?_
    exact W.iret (v := (-1)) hx hb hr (fun t ht hW => ⟨_, rfl, (if_neg (fun q => Int32.not_le.mpr q c_1)).symm, ht⟩) (fun q hq => absurd hq List.not_mem_nil) dX2_own_14
  · refine lv_iload_n hx hb dX2_own_9 rfl (lv_at hl 1 rfl) ?_
    refine lv_goto (tgt := 14) hx hb dX2_own_10 (by decide) ?_
    exact W.iret (v := nI i) hx hb hr (fun t ht hW => ⟨_, rfl, (if_pos (Int32.not_le.mp c_1)).symm, ht⟩) (fun q hq => absurd hq List.not_mem_nil) dX2_own_14
set_option maxHeartbeats 4000000 in
set_option maxRecDepth 100000 in
/-- hours until the audit -/
theorem c_X2_untilAudit (l : Launch) (D : va_G) (cs : Cs) (M : Nat × (Nat → Nat)) (th : Int32) {B : Nat} {σ : PS} (hI : InvS B σ)  : Met l yX2_untilAudit wsX2_untilAudit ({ frames := 1, cells := 0, slots := 0, locals := 20 }) (va_Pc [.ref M.1] (RBp D cs (va_P D vwCl (modW cs M th σ)))) (vp_Si (fun r : Int32 => r = untS σ)) 0 0 (fun _ => False) := by
  refine Met.ofW (cc := cX2_untilAudit) (maxL := 2) (ret := (some .int)) (by decide) rfl ?_
  intro p e s m args below meth c s₁ B0 hml hv
  obtain ⟨rfl, hP, hK, hN⟩ := hv
  have hx := B0.exec
  have hb := B0.bytes
  have hr := B0.returns
  have hts := atoms_spec (ws := wsX2_untilAudit) B0.pre
  have hown : s.vm.findClass RX2 = some m.cls := findClass_of_methodNamed B0.named
  have hlocks := B0.notSynchronized
  have hl := lv_entry ([.ref M.1]) (n := 2) (Nat.le_of_ble_eq_true rfl)
  rw [lg_entry_eq]
  generalize (lg_sl ([.ref M.1]) ++ List.replicate (2 - (lg_sl ([.ref M.1])).length) Slot.unset).toArray = ls at hl ⊢
  have hl : lv_has ls 2 [(0, .ref M.1)] := hl
  refine lv_bipush (v := 12) hx hb dX2_untilAudit_0 (by decide) ?_
  refine lv_aload_n hx hb dX2_untilAudit_2 rfl (lv_at hl 0 rfl) ?_
  refine vp_callSi (va_Run.run (va_runV (As := []) (rest := [.int 12]) ⟨hx, hb, hml, hown, hts⟩ (c_X2_ofDay l D cs M th hI) (cwV 0 hts gX2_untilAudit_X2_ofDay rfl rfl rfl (by decide +kernel) ⟨Nat.le_of_ble_eq_true rfl, Nat.le_of_ble_eq_true rfl⟩) (rb_V hK hN hP (va_recv hK hP (ci := 3) (q0 := 0) rfl rfl)) rfl rfl hl.1 rfl (lv_room (Nat.le_of_ble_eq_true rfl)) dX2_untilAudit_3 ⟨Nat.le_of_ble_eq_true rfl, Nat.le_of_ble_eq_true rfl⟩)) (fun r_1 hr_1 => ?_)
  rw [hr_1]
  refine lv_isub hx hb dX2_untilAudit_6 ?_
  refine lv_bipush (v := 24) hx hb dX2_untilAudit_7 (by decide) ?_
  refine lv_iadd hx hb dX2_untilAudit_9 ?_
  refine lv_bipush (v := 24) hx hb dX2_untilAudit_10 (by decide) ?_
  refine lv_irem hx hb dX2_untilAudit_12 (by decide) ?_
  refine lv_istore_n (lv' := [(1, .int (((12 - (dayOf σ)) + 24) - ((12 - (dayOf σ)) + 24) / 24 * 24)), (0, .ref M.1)]) hx hb dX2_untilAudit_13 rfl hl (by decide) rfl (fun ls hl => ?_)
  refine lv_iload_n hx hb dX2_untilAudit_14 rfl (lv_at hl 0 rfl) ?_
  refine lv_if_ne (tgt := 23) hx hb dX2_untilAudit_15 (by decide) (fun c_2 => ?_) (fun c_2 => ?_)
  · refine lv_iload_n hx hb dX2_untilAudit_23 rfl (lv_at hl 0 rfl) ?_
    exact W.iret (v := ((12 - (dayOf σ)) + 24) - ((12 - (dayOf σ)) + 24) / 24 * 24) hx hb hr (fun t ht hW => ⟨_, rfl, ((unt_m hI).trans (if_neg c_2)).symm, ht⟩) (fun q hq => absurd hq List.not_mem_nil) dX2_untilAudit_24
  · refine lv_bipush (v := 24) hx hb dX2_untilAudit_18 (by decide) ?_
    refine lv_goto (tgt := 24) hx hb dX2_untilAudit_20 (by decide) ?_
    exact W.iret (v := 24) hx hb hr (fun t ht hW => ⟨_, rfl, ((unt_m hI).trans (if_pos c_2)).symm, ht⟩) (fun q hq => absurd hq List.not_mem_nil) dX2_untilAudit_24
theorem in_X2_brings_X2 : ∀ w ∈ wsX20, w ∈ wsX2_brings := by decide +kernel
set_option maxHeartbeats 4000000 in
set_option maxRecDepth 100000 in
/-- what the audit brings -/
theorem c_X2_brings (l : Launch) (D : va_G) (cs : Cs) (M : Nat × (Nat → Nat)) (th : Int32) {B : Nat} {σ : PS} (hI : InvS B σ) (i : Nat) (hi : i < sK σ) : Met l yX2_brings wsX2_brings ({ frames := 5, cells := 0, slots := 0, locals := 108 }) (va_Pc [.ref M.1, .int (nI i)] (RBp D cs (va_P D vwCl (modW cs M th σ)))) (vp_Si (fun r : Int32 => r = gainS σ i)) 0 0 (fun _ => False) := by
  refine Met.ofW (cc := cX2_brings) (maxL := 2) (ret := (some .int)) (by decide) rfl ?_
  intro p e s m args below meth c s₁ B0 hml hv
  obtain ⟨rfl, hP, hK, hN⟩ := hv
  have hx := B0.exec
  have hb := B0.bytes
  have hr := B0.returns
  have hts := atoms_spec (ws := wsX2_brings) B0.pre
  have hown : s.vm.findClass RX2 = some m.cls := findClass_of_methodNamed B0.named
  have hlocks := B0.notSynchronized
  have hl := lv_entry ([.ref M.1, .int (nI i)]) (n := 2) (Nat.le_of_ble_eq_true rfl)
  rw [lg_entry_eq]
  generalize (lg_sl ([.ref M.1, .int (nI i)]) ++ List.replicate (2 - (lg_sl ([.ref M.1, .int (nI i)])).length) Slot.unset).toArray = ls at hl ⊢
  have hl : lv_has ls 2 [(0, .ref M.1), (1, .int (nI i))] := hl
  refine lv_bipush (v := (-2)) hx hb dX2_brings_0 (by decide) ?_
  refine lv_aload_n hx hb dX2_brings_2 rfl (lv_at hl 0 rfl) ?_
  refine va_get (D := D) (ci := 3) (v := .ref (M.2 3)) (C := RX2) (T := TX2) (N := 13) hx hb hts in_X2_brings_X2 hown hK hP 0 rfl rfl 8 (by decide) (hts (.fieldLink RX2 19 "ShadowSocietyModel" "lamp" "[I") (List.mem_of_getElem? (i := 1) (by decide +kernel))) (fun _ h9 => h9) rfl dX2_brings_3 ?_
  refine lv_iload_n hx hb dX2_brings_6 rfl (lv_at hl 1 rfl) ?_
  refine va_iald hx hb hK hP 4 0 rfl rfl (vp_in_nI (by have := hI.1; omega) (by decide)) dX2_brings_7 ?_
  rw [show (nI i).toNatClampNeg = i from nI_clamp (by have := hI.1; omega)]
  refine lv_imul hx hb dX2_brings_8 ?_
  refine lv_aload_n hx hb dX2_brings_9 rfl (lv_at hl 0 rfl) ?_
  refine va_get (D := D) (ci := 3) (v := .ref (M.2 5)) (C := RX2) (T := TX2) (N := 13) hx hb hts in_X2_brings_X2 hown hK hP 0 rfl rfl 10 (by decide) (hts (.fieldLink RX2 25 "ShadowSocietyModel" "length" "[I") (List.mem_of_getElem? (i := 2) (by decide +kernel))) (fun _ h9 => h9) rfl dX2_brings_10 ?_
  refine lv_iload_n hx hb dX2_brings_13 rfl (lv_at hl 1 rfl) ?_
  refine va_iald hx hb hK hP 6 0 rfl rfl (vp_in_nI (by have := hI.1; omega) (by decide)) dX2_brings_14 ?_
  rw [show (nI i).toNatClampNeg = i from nI_clamp (by have := hI.1; omega)]
  refine lv_iconst (v := (-1)) hx hb dX2_brings_15 (by decide) ?_
  refine lv_icmp_ne (tgt := 23) hx hb dX2_brings_16 (by decide) (fun c_1 => ?_) (fun c_1 => ?_)
  · refine lv_aload_n hx hb dX2_brings_23 rfl (lv_at hl 0 rfl) ?_
    refine lv_iload_n hx hb dX2_brings_24 rfl (lv_at hl 1 rfl) ?_
    refine vp_callSi (va_Run.run (va_runV (As := [.int (nI i)]) (rest := [.int ((-2) * (sLa σ i))]) ⟨hx, hb, hml, hown, hts⟩ (c_X2_isTrue l D cs M th hI i hi) (cwV 1 hts gX2_brings_X2_isTrue rfl rfl rfl (by decide +kernel) ⟨Nat.le_of_ble_eq_true rfl, Nat.le_of_ble_eq_true rfl⟩) (rb_V hK hN hP (va_recv hK hP (ci := 3) (q0 := 0) rfl rfl)) rfl rfl hl.1 rfl (lv_room (Nat.le_of_ble_eq_true rfl)) dX2_brings_25 ⟨Nat.le_of_ble_eq_true rfl, Nat.le_of_ble_eq_true rfl⟩)) (fun r_2 hr_2 => ?_)
    rw [hr_2]
    refine lv_if_eq (tgt := 35) hx hb dX2_brings_28 (by decide) (fun c_3 => ?_) (fun c_3 => ?_)
    · refine lv_bipush (v := (-10)) hx hb dX2_brings_35 (by decide) ?_
      refine lv_iadd hx hb dX2_brings_37 ?_
      exact W.iret (v := ((-2) * (sLa σ i)) + (-10)) hx hb hr (fun t ht hW => ⟨_, rfl, (by unfold gainS gainC; rw [if_neg c_1, if_neg (b01_0.mp c_3)]; exact brings_c _ _), ht⟩) (fun q hq => absurd hq List.not_mem_nil) dX2_brings_38
    · refine lv_iconst (v := 3) hx hb dX2_brings_31 (by decide) ?_
      refine lv_goto (tgt := 37) hx hb dX2_brings_32 (by decide) ?_
      refine lv_iadd hx hb dX2_brings_37 ?_
      exact W.iret (v := ((-2) * (sLa σ i)) + 3) hx hb hr (fun t ht hW => ⟨_, rfl, (by unfold gainS gainC; rw [if_neg c_1, if_pos (b01_n.mp c_3)]; exact brings_c _ _), ht⟩) (fun q hq => absurd hq List.not_mem_nil) dX2_brings_38
  · refine lv_iconst (v := 0) hx hb dX2_brings_19 (by decide) ?_
    refine lv_goto (tgt := 37) hx hb dX2_brings_20 (by decide) ?_
    refine lv_iadd hx hb dX2_brings_37 ?_
    exact W.iret (v := ((-2) * (sLa σ i)) + 0) hx hb hr (fun t ht hW => ⟨_, rfl, (by unfold gainS gainC; rw [if_pos c_1]; exact brings_c _ _), ht⟩) (fun q hq => absurd hq List.not_mem_nil) dX2_brings_38
theorem in_X2_certificates_X2 : ∀ w ∈ wsX20, w ∈ wsX2_certificates := by decide +kernel
set_option maxHeartbeats 4000000 in
set_option maxRecDepth 100000 in
/-- how many certificates -/
theorem c_X2_certificates (l : Launch) (D : va_G) (cs : Cs) (M : Nat × (Nat → Nat)) (th : Int32) {B : Nat} {σ : PS} (hI : InvS B σ) (z : Int32) : Met l yX2_certificates wsX2_certificates ({ frames := 5, cells := 0, slots := 0, locals := 108 }) (va_Pc [.ref M.1, .int z] (RBp D cs (va_P D vwCl (modW cs M th σ)))) (vp_Si (fun r : Int32 => r = cntS (fun j => hasC σ j ∧ (z = 0 ∨ truC σ j)) (sK σ))) 0 0 (fun _ => False) := by
  refine Met.ofW (cc := cX2_certificates) (maxL := 4) (ret := (some .int)) (by decide) rfl ?_
  intro p e s m args below meth c s₁ B0 hml hv
  obtain ⟨rfl, hP, hK, hN⟩ := hv
  have hx := B0.exec
  have hb := B0.bytes
  have hr := B0.returns
  have hts := atoms_spec (ws := wsX2_certificates) B0.pre
  have hown : s.vm.findClass RX2 = some m.cls := findClass_of_methodNamed B0.named
  have hlocks := B0.notSynchronized
  have hl := lv_entry ([.ref M.1, .int z]) (n := 4) (Nat.le_of_ble_eq_true rfl)
  rw [lg_entry_eq]
  generalize (lg_sl ([.ref M.1, .int z]) ++ List.replicate (4 - (lg_sl ([.ref M.1, .int z])).length) Slot.unset).toArray = ls at hl ⊢
  have hl : lv_has ls 4 [(0, .ref M.1), (1, .int z)] := hl
  refine lv_iconst (v := 0) hx hb dX2_certificates_0 (by decide) ?_
  refine lv_istore_n (lv' := [(2, .int 0), (0, .ref M.1), (1, .int z)]) hx hb dX2_certificates_1 rfl hl (by decide) rfl (fun ls hl => ?_)
  refine lv_iconst (v := 0) hx hb dX2_certificates_2 (by decide) ?_
  refine lv_istore_n (lv' := [(3, .int 0), (2, .int 0), (0, .ref M.1), (1, .int z)]) hx hb dX2_certificates_3 rfl hl (by decide) rfl (fun ls hl => ?_)
  refine lv_for (sK σ) (fun ls => F0 m 4 ls []) (fun n9 => [(0, .ref M.1), (1, .int z), (2, .int (cntS (fun j => hasC σ j ∧ (z = 0 ∨ truC σ j)) n9)), (3, .int (nI n9))]) (fun _ => True) (show lv_has ls 4 [(0, .ref M.1), (1, .int z), (2, .int (cntS (fun j => hasC σ j ∧ (z = 0 ∨ truC σ j)) 0)), (3, .int (nI 0))] from lv_sub hl [2, 3, 1, 0] rfl) (trivial) (fun n9 ls hn9 hj9 hl K9 => ?_) (fun ls hj9 hl => ?_)
  · have hl : lv_has ls 4 [(0, .ref M.1), (1, .int z), (2, .int (cntS (fun j => hasC σ j ∧ (z = 0 ∨ truC σ j)) n9)), (3, .int (nI n9))] := hl
    refine lv_iload_n hx hb dX2_certificates_4 rfl (lv_at hl 3 rfl) ?_
    refine lv_aload_n hx hb dX2_certificates_5 rfl (lv_at hl 0 rfl) ?_
    refine va_get (D := D) (ci := 3) (v := .int (nI (sK σ))) (C := RX2) (T := TX2) (N := 13) hx hb hts in_X2_certificates_X2 hown hK hP 0 rfl rfl 1 (by decide) (hts (.fieldLink RX2 38 "ShadowSocietyModel" "members" "I") (List.mem_of_getElem? (i := 1) (by decide +kernel))) (fun _ h9 => h9) rfl dX2_certificates_6 ?_
    refine lv_icmp_ge (tgt := 48) hx hb dX2_certificates_9 (by decide) (fun c9 => absurd c9 (nI_ge hn9 (by have := hI.1; omega))) (fun _ => ?_)
    refine lv_iload_n hx hb dX2_certificates_12 rfl (lv_at hl 2 rfl) ?_
    refine lv_aload_n hx hb dX2_certificates_13 rfl (lv_at hl 0 rfl) ?_
    refine va_get (D := D) (ci := 3) (v := .ref (M.2 5)) (C := RX2) (T := TX2) (N := 13) hx hb hts in_X2_certificates_X2 hown hK hP 0 rfl rfl 10 (by decide) (hts (.fieldLink RX2 25 "ShadowSocietyModel" "length" "[I") (List.mem_of_getElem? (i := 2) (by decide +kernel))) (fun _ h9 => h9) rfl dX2_certificates_14 ?_
    refine lv_iload_n hx hb dX2_certificates_17 rfl (lv_at hl 3 rfl) ?_
    refine va_iald hx hb hK hP 6 0 rfl rfl (vp_in_nI (by have := hI.1; omega) (by decide)) dX2_certificates_18 ?_
    rw [show (nI n9).toNatClampNeg = n9 from nI_clamp (by have := hI.1; omega)]
    refine lv_iconst (v := (-1)) hx hb dX2_certificates_19 (by decide) ?_
    refine lv_icmp_eq (tgt := 39) hx hb dX2_certificates_20 (by decide) (fun c_1 => ?_) (fun c_1 => ?_)
    · refine lv_iconst (v := 0) hx hb dX2_certificates_39 (by decide) ?_
      refine lv_iadd hx hb dX2_certificates_40 ?_
      refine lv_istore_n (lv' := [(2, .int ((cntS (fun j => hasC σ j ∧ (z = 0 ∨ truC σ j)) n9) + 0)), (0, .ref M.1), (1, .int z), (3, .int (nI n9))]) hx hb dX2_certificates_41 rfl hl (by decide) rfl (fun ls hl => ?_)
      refine lv_iinc (v := nI (n9 + 1)) (lv' := [(3, .int (nI (n9 + 1))), (2, .int ((cntS (fun j => hasC σ j ∧ (z = 0 ∨ truC σ j)) n9) + 0)), (0, .ref M.1), (1, .int z)]) hx hb dX2_certificates_42 hl (k := 3) rfl (nI_add _ 1) (by decide) rfl (fun ls hl => ?_)
      refine lv_goto (tgt := 4) hx hb dX2_certificates_45 (by decide) ?_
      refine K9 ls (trivial) ?_
      show lv_has ls 4 [(0, .ref M.1), (1, .int z), (2, .int (cntS (fun j => hasC σ j ∧ (z = 0 ∨ truC σ j)) (n9 + 1))), (3, .int (nI (n9 + 1)))]
      rw [show cntS (fun j => hasC σ j ∧ (z = 0 ∨ truC σ j)) (n9 + 1) = (cntS (fun j => hasC σ j ∧ (z = 0 ∨ truC σ j)) n9) + 0 from ((cnt_f (p := fun j => hasC σ j ∧ (z = 0 ∨ truC σ j)) (fun q => q.1 c_1)).trans (Int32.add_zero _).symm)]
      exact lv_sub hl [2, 3, 1, 0] rfl
    · refine lv_iload_n hx hb dX2_certificates_23 rfl (lv_at hl 1 rfl) ?_
      refine lv_if_eq (tgt := 35) hx hb dX2_certificates_24 (by decide) (fun c_2 => ?_) (fun c_2 => ?_)
      · refine lv_iconst (v := 1) hx hb dX2_certificates_35 (by decide) ?_
        refine lv_goto (tgt := 40) hx hb dX2_certificates_36 (by decide) ?_
        refine lv_iadd hx hb dX2_certificates_40 ?_
        refine lv_istore_n (lv' := [(2, .int ((cntS (fun j => hasC σ j ∧ (z = 0 ∨ truC σ j)) n9) + 1)), (0, .ref M.1), (1, .int z), (3, .int (nI n9))]) hx hb dX2_certificates_41 rfl hl (by decide) rfl (fun ls hl => ?_)
        refine lv_iinc (v := nI (n9 + 1)) (lv' := [(3, .int (nI (n9 + 1))), (2, .int ((cntS (fun j => hasC σ j ∧ (z = 0 ∨ truC σ j)) n9) + 1)), (0, .ref M.1), (1, .int z)]) hx hb dX2_certificates_42 hl (k := 3) rfl (nI_add _ 1) (by decide) rfl (fun ls hl => ?_)
        refine lv_goto (tgt := 4) hx hb dX2_certificates_45 (by decide) ?_
        refine K9 ls (trivial) ?_
        show lv_has ls 4 [(0, .ref M.1), (1, .int z), (2, .int (cntS (fun j => hasC σ j ∧ (z = 0 ∨ truC σ j)) (n9 + 1))), (3, .int (nI (n9 + 1)))]
        rw [show cntS (fun j => hasC σ j ∧ (z = 0 ∨ truC σ j)) (n9 + 1) = (cntS (fun j => hasC σ j ∧ (z = 0 ∨ truC σ j)) n9) + 1 from (cnt_t (p := fun j => hasC σ j ∧ (z = 0 ∨ truC σ j)) (⟨c_1, Or.inl c_2⟩))]
        exact lv_sub hl [2, 3, 1, 0] rfl
      · refine lv_aload_n hx hb dX2_certificates_27 rfl (lv_at hl 0 rfl) ?_
        refine lv_iload_n hx hb dX2_certificates_28 rfl (lv_at hl 3 rfl) ?_
        refine vp_callSi (va_Run.run (va_runV (As := [.int (nI n9)]) (rest := [.int (cntS (fun j => hasC σ j ∧ (z = 0 ∨ truC σ j)) n9)]) ⟨hx, hb, hml, hown, hts⟩ (c_X2_isTrue l D cs M th hI n9 hn9) (cwV 1 hts gX2_certificates_X2_isTrue rfl rfl rfl (by decide +kernel) ⟨Nat.le_of_ble_eq_true rfl, Nat.le_of_ble_eq_true rfl⟩) (rb_V hK hN hP (va_recv hK hP (ci := 3) (q0 := 0) rfl rfl)) rfl rfl hl.1 rfl (lv_room (Nat.le_of_ble_eq_true rfl)) dX2_certificates_29 ⟨Nat.le_of_ble_eq_true rfl, Nat.le_of_ble_eq_true rfl⟩)) (fun r_3 hr_3 => ?_)
        rw [hr_3]
        refine lv_if_eq (tgt := 39) hx hb dX2_certificates_32 (by decide) (fun c_4 => ?_) (fun c_4 => ?_)
        · refine lv_iconst (v := 0) hx hb dX2_certificates_39 (by decide) ?_
          refine lv_iadd hx hb dX2_certificates_40 ?_
          refine lv_istore_n (lv' := [(2, .int ((cntS (fun j => hasC σ j ∧ (z = 0 ∨ truC σ j)) n9) + 0)), (0, .ref M.1), (1, .int z), (3, .int (nI n9))]) hx hb dX2_certificates_41 rfl hl (by decide) rfl (fun ls hl => ?_)
          refine lv_iinc (v := nI (n9 + 1)) (lv' := [(3, .int (nI (n9 + 1))), (2, .int ((cntS (fun j => hasC σ j ∧ (z = 0 ∨ truC σ j)) n9) + 0)), (0, .ref M.1), (1, .int z)]) hx hb dX2_certificates_42 hl (k := 3) rfl (nI_add _ 1) (by decide) rfl (fun ls hl => ?_)
          refine lv_goto (tgt := 4) hx hb dX2_certificates_45 (by decide) ?_
          refine K9 ls (trivial) ?_
          show lv_has ls 4 [(0, .ref M.1), (1, .int z), (2, .int (cntS (fun j => hasC σ j ∧ (z = 0 ∨ truC σ j)) (n9 + 1))), (3, .int (nI (n9 + 1)))]
          rw [show cntS (fun j => hasC σ j ∧ (z = 0 ∨ truC σ j)) (n9 + 1) = (cntS (fun j => hasC σ j ∧ (z = 0 ∨ truC σ j)) n9) + 0 from ((cnt_f (p := fun j => hasC σ j ∧ (z = 0 ∨ truC σ j)) (fun q => q.2.elim c_2 (b01_0.mp c_4))).trans (Int32.add_zero _).symm)]
          exact lv_sub hl [2, 3, 1, 0] rfl
        · refine lv_iconst (v := 1) hx hb dX2_certificates_35 (by decide) ?_
          refine lv_goto (tgt := 40) hx hb dX2_certificates_36 (by decide) ?_
          refine lv_iadd hx hb dX2_certificates_40 ?_
          refine lv_istore_n (lv' := [(2, .int ((cntS (fun j => hasC σ j ∧ (z = 0 ∨ truC σ j)) n9) + 1)), (0, .ref M.1), (1, .int z), (3, .int (nI n9))]) hx hb dX2_certificates_41 rfl hl (by decide) rfl (fun ls hl => ?_)
          refine lv_iinc (v := nI (n9 + 1)) (lv' := [(3, .int (nI (n9 + 1))), (2, .int ((cntS (fun j => hasC σ j ∧ (z = 0 ∨ truC σ j)) n9) + 1)), (0, .ref M.1), (1, .int z)]) hx hb dX2_certificates_42 hl (k := 3) rfl (nI_add _ 1) (by decide) rfl (fun ls hl => ?_)
          refine lv_goto (tgt := 4) hx hb dX2_certificates_45 (by decide) ?_
          refine K9 ls (trivial) ?_
          show lv_has ls 4 [(0, .ref M.1), (1, .int z), (2, .int (cntS (fun j => hasC σ j ∧ (z = 0 ∨ truC σ j)) (n9 + 1))), (3, .int (nI (n9 + 1)))]
          rw [show cntS (fun j => hasC σ j ∧ (z = 0 ∨ truC σ j)) (n9 + 1) = (cntS (fun j => hasC σ j ∧ (z = 0 ∨ truC σ j)) n9) + 1 from (cnt_t (p := fun j => hasC σ j ∧ (z = 0 ∨ truC σ j)) (⟨c_1, Or.inr (b01_n.mp c_4)⟩))]
          exact lv_sub hl [2, 3, 1, 0] rfl
  · have hl : lv_has ls 4 [(0, .ref M.1), (1, .int z), (2, .int (cntS (fun j => hasC σ j ∧ (z = 0 ∨ truC σ j)) (sK σ))), (3, .int (nI (sK σ)))] := hl
    refine lv_iload_n hx hb dX2_certificates_4 rfl (lv_at hl 3 rfl) ?_
    refine lv_aload_n hx hb dX2_certificates_5 rfl (lv_at hl 0 rfl) ?_
    refine va_get (D := D) (ci := 3) (v := .int (nI (sK σ))) (C := RX2) (T := TX2) (N := 13) hx hb hts in_X2_certificates_X2 hown hK hP 0 rfl rfl 1 (by decide) (hts (.fieldLink RX2 38 "ShadowSocietyModel" "members" "I") (List.mem_of_getElem? (i := 1) (by decide +kernel))) (fun _ h9 => h9) rfl dX2_certificates_6 ?_
    refine lv_icmp_ge (tgt := 48) hx hb dX2_certificates_9 (by decide) (fun _ => ?_) (fun c9 => absurd (nI_le (Nat.le_refl _) (by have := hI.1; omega)) c9)
    refine lv_iload_n hx hb dX2_certificates_48 rfl (lv_at hl 2 rfl) ?_
    exact W.iret (v := cntS (fun j => hasC σ j ∧ (z = 0 ∨ truC σ j)) (sK σ)) hx hb hr (fun t ht hW => ⟨_, rfl, rfl, ht⟩) (fun q hq => absurd hq List.not_mem_nil) dX2_certificates_49
theorem in_X2_longestNow_X2 : ∀ w ∈ wsX20, w ∈ wsX2_longestNow := by decide +kernel
set_option maxHeartbeats 4000000 in
set_option maxRecDepth 100000 in
/-- the first of the greatest -/
theorem c_X2_longestNow (l : Launch) (D : va_G) (cs : Cs) (M : Nat × (Nat → Nat)) (th : Int32) {B : Nat} {σ : PS} (hI : InvS B σ)  : Met l yX2_longestNow wsX2_longestNow ({ frames := 4, cells := 0, slots := 0, locals := 86 }) (va_Pc [.ref M.1] (RBp D cs (va_P D vwCl (modW cs M th σ)))) (vp_Si (fun r : Int32 => r = longS σ)) 0 0 (fun _ => False) := by
  refine Met.ofW (cc := cX2_longestNow) (maxL := 3) (ret := (some .int)) (by decide) rfl ?_
  intro p e s m args below meth c s₁ B0 hml hv
  obtain ⟨rfl, hP, hK, hN⟩ := hv
  have hx := B0.exec
  have hb := B0.bytes
  have hr := B0.returns
  have hts := atoms_spec (ws := wsX2_longestNow) B0.pre
  have hown : s.vm.findClass RX2 = some m.cls := findClass_of_methodNamed B0.named
  have hlocks := B0.notSynchronized
  have hl := lv_entry ([.ref M.1]) (n := 3) (Nat.le_of_ble_eq_true rfl)
  rw [lg_entry_eq]
  generalize (lg_sl ([.ref M.1]) ++ List.replicate (3 - (lg_sl ([.ref M.1])).length) Slot.unset).toArray = ls at hl ⊢
  have hl : lv_has ls 3 [(0, .ref M.1)] := hl
  refine lv_iconst (v := (-1)) hx hb dX2_longestNow_0 (by decide) ?_
  refine lv_istore_n (lv' := [(1, .int (-1)), (0, .ref M.1)]) hx hb dX2_longestNow_1 rfl hl (by decide) rfl (fun ls hl => ?_)
  refine lv_iconst (v := 0) hx hb dX2_longestNow_2 (by decide) ?_
  refine lv_istore_n (lv' := [(2, .int 0), (1, .int (-1)), (0, .ref M.1)]) hx hb dX2_longestNow_3 rfl hl (by decide) rfl (fun ls hl => ?_)
  refine lv_for (sK σ) (fun ls => F0 m 4 ls []) (fun n9 => [(0, .ref M.1), (1, .int (amxS (fun o => shadS σ o (dayOf σ)) n9)), (2, .int (nI n9))]) (fun _ => True) (show lv_has ls 3 [(0, .ref M.1), (1, .int (amxS (fun o => shadS σ o (dayOf σ)) 0)), (2, .int (nI 0))] from lv_sub hl [2, 1, 0] rfl) (trivial) (fun n9 ls hn9 hj9 hl K9 => ?_) (fun ls hj9 hl => ?_)
  · have hl : lv_has ls 3 [(0, .ref M.1), (1, .int (amxS (fun o => shadS σ o (dayOf σ)) n9)), (2, .int (nI n9))] := hl
    refine lv_iload_n hx hb dX2_longestNow_4 rfl (lv_at hl 2 rfl) ?_
    refine lv_aload_n hx hb dX2_longestNow_5 rfl (lv_at hl 0 rfl) ?_
    refine va_get (D := D) (ci := 3) (v := .int (nI (sK σ))) (C := RX2) (T := TX2) (N := 13) hx hb hts in_X2_longestNow_X2 hown hK hP 0 rfl rfl 1 (by decide) (hts (.fieldLink RX2 38 "ShadowSocietyModel" "members" "I") (List.mem_of_getElem? (i := 1) (by decide +kernel))) (fun _ h9 => h9) rfl dX2_longestNow_6 ?_
    refine lv_icmp_ge (tgt := 38) hx hb dX2_longestNow_9 (by decide) (fun c9 => absurd c9 (nI_ge hn9 (by have := hI.1; omega))) (fun _ => ?_)
    refine lv_iload_n hx hb dX2_longestNow_12 rfl (lv_at hl 1 rfl) ?_
    refine lv_iconst (v := (-1)) hx hb dX2_longestNow_13 (by decide) ?_
    refine lv_icmp_eq (tgt := 30) hx hb dX2_longestNow_14 (by decide) (fun c_1 => ?_) (fun c_1 => ?_)
    · refine lv_iload_n hx hb dX2_longestNow_30 rfl (lv_at hl 2 rfl) ?_
      refine lv_istore_n (lv' := [(1, .int (nI n9)), (0, .ref M.1), (2, .int (nI n9))]) hx hb dX2_longestNow_31 rfl hl (by decide) rfl (fun ls hl => ?_)
      refine lv_iinc (v := nI (n9 + 1)) (lv' := [(2, .int (nI (n9 + 1))), (1, .int (nI n9)), (0, .ref M.1)]) hx hb dX2_longestNow_32 hl (k := 2) rfl (nI_add _ 1) (by decide) rfl (fun ls hl => ?_)
      refine lv_goto (tgt := 4) hx hb dX2_longestNow_35 (by decide) ?_
      refine K9 ls (trivial) ?_
      show lv_has ls 3 [(0, .ref M.1), (1, .int (amxS (fun o => shadS σ o (dayOf σ)) (n9 + 1))), (2, .int (nI (n9 + 1)))]
      rw [show amxS (fun o => shadS σ o (dayOf σ)) (n9 + 1) = nI n9 from (amp_n1 (p := fun o => True) (f := fun o => shadS σ o (dayOf σ)) (by have := hI.1; omega) True.intro c_1).1]
      exact lv_sub hl [2, 1, 0] rfl
    · refine lv_aload_n hx hb dX2_longestNow_17 rfl (lv_at hl 0 rfl) ?_
      refine lv_iload_n hx hb dX2_longestNow_18 rfl (lv_at hl 2 rfl) ?_
      refine vp_callSi (va_Run.run (va_runV (As := [.int (nI n9)]) (rest := []) ⟨hx, hb, hml, hown, hts⟩ (c_X2_shadow l D cs M th hI n9 hn9) (cwV 1 hts gX2_longestNow_X2_shadow rfl rfl rfl (by decide +kernel) ⟨Nat.le_of_ble_eq_true rfl, Nat.le_of_ble_eq_true rfl⟩) (rb_V hK hN hP (va_recv hK hP (ci := 3) (q0 := 0) rfl rfl)) rfl rfl hl.1 rfl (lv_room (Nat.le_of_ble_eq_true rfl)) dX2_longestNow_19 ⟨Nat.le_of_ble_eq_true rfl, Nat.le_of_ble_eq_true rfl⟩)) (fun r_2 hr_2 => ?_)
      rw [hr_2]
      refine lv_aload_n hx hb dX2_longestNow_22 rfl (lv_at hl 0 rfl) ?_
      refine lv_iload_n hx hb dX2_longestNow_23 rfl (lv_at hl 1 rfl) ?_
      obtain ⟨b9, hb9, e9⟩ : ∃ j, j < n9 ∧ amxS (fun o => shadS σ o (dayOf σ)) n9 = nI j := amp_in c_1
      have hb8 : b9 < sK σ := by omega
      refine W.eq (g2 := F0 m 24 ls [.int (nI b9), .ref M.1, .int (shadS σ n9 (dayOf σ))]) (by rw [e9]) ?_
      refine vp_callSi (va_Run.run (va_runV (As := [.int (nI b9)]) (rest := [.int (shadS σ n9 (dayOf σ))]) ⟨hx, hb, hml, hown, hts⟩ (c_X2_shadow l D cs M th hI b9 hb8) (cwV 1 hts gX2_longestNow_X2_shadow rfl rfl rfl (by decide +kernel) ⟨Nat.le_of_ble_eq_true rfl, Nat.le_of_ble_eq_true rfl⟩) (rb_V hK hN hP (va_recv hK hP (ci := 3) (q0 := 0) rfl rfl)) rfl rfl hl.1 rfl (lv_room (Nat.le_of_ble_eq_true rfl)) dX2_longestNow_24 ⟨Nat.le_of_ble_eq_true rfl, Nat.le_of_ble_eq_true rfl⟩)) (fun r_3 hr_3 => ?_)
      rw [hr_3]
      refine lv_icmp_le (tgt := 32) hx hb dX2_longestNow_27 (by decide) (fun c_4 => ?_) (fun c_4 => ?_)
      · refine lv_iinc (v := nI (n9 + 1)) (lv' := [(2, .int (nI (n9 + 1))), (0, .ref M.1), (1, .int (amxS (fun o => shadS σ o (dayOf σ)) n9))]) hx hb dX2_longestNow_32 hl (k := 2) rfl (nI_add _ 1) (by decide) rfl (fun ls hl => ?_)
        refine lv_goto (tgt := 4) hx hb dX2_longestNow_35 (by decide) ?_
        refine K9 ls (trivial) ?_
        show lv_has ls 3 [(0, .ref M.1), (1, .int (amxS (fun o => shadS σ o (dayOf σ)) (n9 + 1))), (2, .int (nI (n9 + 1)))]
        rw [show amxS (fun o => shadS σ o (dayOf σ)) (n9 + 1) = amxS (fun o => shadS σ o (dayOf σ)) n9 from (amp_k (p := fun o => True) (f := fun o => shadS σ o (dayOf σ)) True.intro c_1 (by rw [(show ampV (fun o => True) (fun o => shadS σ o (dayOf σ)) n9 = _ from amp_vj (by have := hI.1; omega) e9)]; exact c_4)).1]
        exact lv_sub hl [1, 2, 0] rfl
      · refine lv_iload_n hx hb dX2_longestNow_30 rfl (lv_at hl 2 rfl) ?_
        refine lv_istore_n (lv' := [(1, .int (nI n9)), (0, .ref M.1), (2, .int (nI n9))]) hx hb dX2_longestNow_31 rfl hl (by decide) rfl (fun ls hl => ?_)
        refine lv_iinc (v := nI (n9 + 1)) (lv' := [(2, .int (nI (n9 + 1))), (1, .int (nI n9)), (0, .ref M.1)]) hx hb dX2_longestNow_32 hl (k := 2) rfl (nI_add _ 1) (by decide) rfl (fun ls hl => ?_)
        refine lv_goto (tgt := 4) hx hb dX2_longestNow_35 (by decide) ?_
        refine K9 ls (trivial) ?_
        show lv_has ls 3 [(0, .ref M.1), (1, .int (amxS (fun o => shadS σ o (dayOf σ)) (n9 + 1))), (2, .int (nI (n9 + 1)))]
        rw [show amxS (fun o => shadS σ o (dayOf σ)) (n9 + 1) = nI n9 from (amp_n2 (p := fun o => True) (f := fun o => shadS σ o (dayOf σ)) (by have := hI.1; omega) True.intro c_1 (by rw [(show ampV (fun o => True) (fun o => shadS σ o (dayOf σ)) n9 = _ from amp_vj (by have := hI.1; omega) e9)]; exact c_4)).1]
        exact lv_sub hl [2, 1, 0] rfl
  · have hl : lv_has ls 3 [(0, .ref M.1), (1, .int (amxS (fun o => shadS σ o (dayOf σ)) (sK σ))), (2, .int (nI (sK σ)))] := hl
    refine lv_iload_n hx hb dX2_longestNow_4 rfl (lv_at hl 2 rfl) ?_
    refine lv_aload_n hx hb dX2_longestNow_5 rfl (lv_at hl 0 rfl) ?_
    refine va_get (D := D) (ci := 3) (v := .int (nI (sK σ))) (C := RX2) (T := TX2) (N := 13) hx hb hts in_X2_longestNow_X2 hown hK hP 0 rfl rfl 1 (by decide) (hts (.fieldLink RX2 38 "ShadowSocietyModel" "members" "I") (List.mem_of_getElem? (i := 1) (by decide +kernel))) (fun _ h9 => h9) rfl dX2_longestNow_6 ?_
    refine lv_icmp_ge (tgt := 38) hx hb dX2_longestNow_9 (by decide) (fun _ => ?_) (fun c9 => absurd (nI_le (Nat.le_refl _) (by have := hI.1; omega)) c9)
    refine lv_iload_n hx hb dX2_longestNow_38 rfl (lv_at hl 1 rfl) ?_
    exact W.iret (v := amxS (fun o => shadS σ o (dayOf σ)) (sK σ)) hx hb hr (fun t ht hW => ⟨_, rfl, rfl, ht⟩) (fun q hq => absurd hq List.not_mem_nil) dX2_longestNow_39
theorem in_X2_richest_X2 : ∀ w ∈ wsX20, w ∈ wsX2_richest := by decide +kernel
set_option maxHeartbeats 4000000 in
set_option maxRecDepth 100000 in
/-- the first of the greatest -/
theorem c_X2_richest (l : Launch) (D : va_G) (cs : Cs) (M : Nat × (Nat → Nat)) (th : Int32) {B : Nat} {σ : PS} (hI : InvS B σ)  : Met l yX2_richest wsX2_richest ({ frames := 6, cells := 0, slots := 0, locals := 129 }) (va_Pc [.ref M.1] (RBp D cs (va_P D vwCl (modW cs M th σ)))) (vp_Si (fun r : Int32 => r = richS σ)) 0 0 (fun _ => False) := by
  refine Met.ofW (cc := cX2_richest) (maxL := 3) (ret := (some .int)) (by decide) rfl ?_
  intro p e s m args below meth c s₁ B0 hml hv
  obtain ⟨rfl, hP, hK, hN⟩ := hv
  have hx := B0.exec
  have hb := B0.bytes
  have hr := B0.returns
  have hts := atoms_spec (ws := wsX2_richest) B0.pre
  have hown : s.vm.findClass RX2 = some m.cls := findClass_of_methodNamed B0.named
  have hlocks := B0.notSynchronized
  have hl := lv_entry ([.ref M.1]) (n := 3) (Nat.le_of_ble_eq_true rfl)
  rw [lg_entry_eq]
  generalize (lg_sl ([.ref M.1]) ++ List.replicate (3 - (lg_sl ([.ref M.1])).length) Slot.unset).toArray = ls at hl ⊢
  have hl : lv_has ls 3 [(0, .ref M.1)] := hl
  refine lv_iconst (v := (-1)) hx hb dX2_richest_0 (by decide) ?_
  refine lv_istore_n (lv' := [(1, .int (-1)), (0, .ref M.1)]) hx hb dX2_richest_1 rfl hl (by decide) rfl (fun ls hl => ?_)
  refine lv_iconst (v := 0) hx hb dX2_richest_2 (by decide) ?_
  refine lv_istore_n (lv' := [(2, .int 0), (1, .int (-1)), (0, .ref M.1)]) hx hb dX2_richest_3 rfl hl (by decide) rfl (fun ls hl => ?_)
  refine lv_for (sK σ) (fun ls => F0 m 4 ls []) (fun n9 => [(0, .ref M.1), (1, .int (amxS (fun o => sPu σ o + gainS σ o) n9)), (2, .int (nI n9))]) (fun _ => True) (show lv_has ls 3 [(0, .ref M.1), (1, .int (amxS (fun o => sPu σ o + gainS σ o) 0)), (2, .int (nI 0))] from lv_sub hl [2, 1, 0] rfl) (trivial) (fun n9 ls hn9 hj9 hl K9 => ?_) (fun ls hj9 hl => ?_)
  · have hl : lv_has ls 3 [(0, .ref M.1), (1, .int (amxS (fun o => sPu σ o + gainS σ o) n9)), (2, .int (nI n9))] := hl
    refine lv_iload_n hx hb dX2_richest_4 rfl (lv_at hl 2 rfl) ?_
    refine lv_aload_n hx hb dX2_richest_5 rfl (lv_at hl 0 rfl) ?_
    refine va_get (D := D) (ci := 3) (v := .int (nI (sK σ))) (C := RX2) (T := TX2) (N := 13) hx hb hts in_X2_richest_X2 hown hK hP 0 rfl rfl 1 (by decide) (hts (.fieldLink RX2 38 "ShadowSocietyModel" "members" "I") (List.mem_of_getElem? (i := 1) (by decide +kernel))) (fun _ h9 => h9) rfl dX2_richest_6 ?_
    refine lv_icmp_ge (tgt := 52) hx hb dX2_richest_9 (by decide) (fun c9 => absurd c9 (nI_ge hn9 (by have := hI.1; omega))) (fun _ => ?_)
    refine lv_iload_n hx hb dX2_richest_12 rfl (lv_at hl 1 rfl) ?_
    refine lv_iconst (v := (-1)) hx hb dX2_richest_13 (by decide) ?_
    refine lv_icmp_eq (tgt := 44) hx hb dX2_richest_14 (by decide) (fun c_1 => ?_) (fun c_1 => ?_)
    · refine lv_iload_n hx hb dX2_richest_44 rfl (lv_at hl 2 rfl) ?_
      refine lv_istore_n (lv' := [(1, .int (nI n9)), (0, .ref M.1), (2, .int (nI n9))]) hx hb dX2_richest_45 rfl hl (by decide) rfl (fun ls hl => ?_)
      refine lv_iinc (v := nI (n9 + 1)) (lv' := [(2, .int (nI (n9 + 1))), (1, .int (nI n9)), (0, .ref M.1)]) hx hb dX2_richest_46 hl (k := 2) rfl (nI_add _ 1) (by decide) rfl (fun ls hl => ?_)
      refine lv_goto (tgt := 4) hx hb dX2_richest_49 (by decide) ?_
      refine K9 ls (trivial) ?_
      show lv_has ls 3 [(0, .ref M.1), (1, .int (amxS (fun o => sPu σ o + gainS σ o) (n9 + 1))), (2, .int (nI (n9 + 1)))]
      rw [show amxS (fun o => sPu σ o + gainS σ o) (n9 + 1) = nI n9 from (amp_n1 (p := fun o => True) (f := fun o => sPu σ o + gainS σ o) (by have := hI.1; omega) True.intro c_1).1]
      exact lv_sub hl [2, 1, 0] rfl
    · refine lv_aload_n hx hb dX2_richest_17 rfl (lv_at hl 0 rfl) ?_
      refine va_get (D := D) (ci := 3) (v := .ref (M.2 2)) (C := RX2) (T := TX2) (N := 13) hx hb hts in_X2_richest_X2 hown hK hP 0 rfl rfl 7 (by decide) (hts (.fieldLink RX2 16 "ShadowSocietyModel" "purse" "[I") (List.mem_of_getElem? (i := 2) (by decide +kernel))) (fun _ h9 => h9) rfl dX2_richest_18 ?_
      refine lv_iload_n hx hb dX2_richest_21 rfl (lv_at hl 2 rfl) ?_
      refine va_iald hx hb hK hP 3 0 rfl rfl (vp_in_nI (by have := hI.1; omega) (by decide)) dX2_richest_22 ?_
      rw [show (nI n9).toNatClampNeg = n9 from nI_clamp (by have := hI.1; omega)]
      refine lv_aload_n hx hb dX2_richest_23 rfl (lv_at hl 0 rfl) ?_
      refine lv_iload_n hx hb dX2_richest_24 rfl (lv_at hl 2 rfl) ?_
      refine vp_callSi (va_Run.run (va_runV (As := [.int (nI n9)]) (rest := [.int (sPu σ n9)]) ⟨hx, hb, hml, hown, hts⟩ (c_X2_brings l D cs M th hI n9 hn9) (cwV 1 hts gX2_richest_X2_brings rfl rfl rfl (by decide +kernel) ⟨Nat.le_of_ble_eq_true rfl, Nat.le_of_ble_eq_true rfl⟩) (rb_V hK hN hP (va_recv hK hP (ci := 3) (q0 := 0) rfl rfl)) rfl rfl hl.1 rfl (lv_room (Nat.le_of_ble_eq_true rfl)) dX2_richest_25 ⟨Nat.le_of_ble_eq_true rfl, Nat.le_of_ble_eq_true rfl⟩)) (fun r_2 hr_2 => ?_)
      rw [hr_2]
      refine lv_iadd hx hb dX2_richest_28 ?_
      refine lv_aload_n hx hb dX2_richest_29 rfl (lv_at hl 0 rfl) ?_
      refine va_get (D := D) (ci := 3) (v := .ref (M.2 2)) (C := RX2) (T := TX2) (N := 13) hx hb hts in_X2_richest_X2 hown hK hP 0 rfl rfl 7 (by decide) (hts (.fieldLink RX2 16 "ShadowSocietyModel" "purse" "[I") (List.mem_of_getElem? (i := 2) (by decide +kernel))) (fun _ h9 => h9) rfl dX2_richest_30 ?_
      refine lv_iload_n hx hb dX2_richest_33 rfl (lv_at hl 1 rfl) ?_
      obtain ⟨b9, hb9, e9⟩ : ∃ j, j < n9 ∧ amxS (fun o => sPu σ o + gainS σ o) n9 = nI j := amp_in c_1
      have hb8 : b9 < sK σ := by omega
      refine W.eq (g2 := F0 m 34 ls [.int (nI b9), .ref (M.2 2), .int ((sPu σ n9) + (gainS σ n9))]) (by rw [e9]) ?_
      refine va_iald hx hb hK hP 3 0 rfl rfl (vp_in_nI (by have := hI.1; omega) (by decide)) dX2_richest_34 ?_
      rw [show (nI b9).toNatClampNeg = b9 from nI_clamp (by have := hI.1; omega)]
      refine lv_aload_n hx hb dX2_richest_35 rfl (lv_at hl 0 rfl) ?_
      refine lv_iload_n hx hb dX2_richest_36 rfl (lv_at hl 1 rfl) ?_
      refine W.eq (g2 := F0 m 37 ls [.int (nI b9), .ref M.1, .int (sPu σ b9), .int ((sPu σ n9) + (gainS σ n9))]) (by rw [e9]) ?_
      refine vp_callSi (va_Run.run (va_runV (As := [.int (nI b9)]) (rest := [.int (sPu σ b9), .int ((sPu σ n9) + (gainS σ n9))]) ⟨hx, hb, hml, hown, hts⟩ (c_X2_brings l D cs M th hI b9 hb8) (cwV 1 hts gX2_richest_X2_brings rfl rfl rfl (by decide +kernel) ⟨Nat.le_of_ble_eq_true rfl, Nat.le_of_ble_eq_true rfl⟩) (rb_V hK hN hP (va_recv hK hP (ci := 3) (q0 := 0) rfl rfl)) rfl rfl hl.1 rfl (lv_room (Nat.le_of_ble_eq_true rfl)) dX2_richest_37 ⟨Nat.le_of_ble_eq_true rfl, Nat.le_of_ble_eq_true rfl⟩)) (fun r_3 hr_3 => ?_)
      rw [hr_3]
      refine lv_iadd hx hb dX2_richest_40 ?_
      refine lv_icmp_le (tgt := 46) hx hb dX2_richest_41 (by decide) (fun c_4 => ?_) (fun c_4 => ?_)
      · refine lv_iinc (v := nI (n9 + 1)) (lv' := [(2, .int (nI (n9 + 1))), (0, .ref M.1), (1, .int (amxS (fun o => sPu σ o + gainS σ o) n9))]) hx hb dX2_richest_46 hl (k := 2) rfl (nI_add _ 1) (by decide) rfl (fun ls hl => ?_)
        refine lv_goto (tgt := 4) hx hb dX2_richest_49 (by decide) ?_
        refine K9 ls (trivial) ?_
        show lv_has ls 3 [(0, .ref M.1), (1, .int (amxS (fun o => sPu σ o + gainS σ o) (n9 + 1))), (2, .int (nI (n9 + 1)))]
        rw [show amxS (fun o => sPu σ o + gainS σ o) (n9 + 1) = amxS (fun o => sPu σ o + gainS σ o) n9 from (amp_k (p := fun o => True) (f := fun o => sPu σ o + gainS σ o) True.intro c_1 (by rw [(show ampV (fun o => True) (fun o => sPu σ o + gainS σ o) n9 = _ from amp_vj (by have := hI.1; omega) e9)]; exact c_4)).1]
        exact lv_sub hl [1, 2, 0] rfl
      · refine lv_iload_n hx hb dX2_richest_44 rfl (lv_at hl 2 rfl) ?_
        refine lv_istore_n (lv' := [(1, .int (nI n9)), (0, .ref M.1), (2, .int (nI n9))]) hx hb dX2_richest_45 rfl hl (by decide) rfl (fun ls hl => ?_)
        refine lv_iinc (v := nI (n9 + 1)) (lv' := [(2, .int (nI (n9 + 1))), (1, .int (nI n9)), (0, .ref M.1)]) hx hb dX2_richest_46 hl (k := 2) rfl (nI_add _ 1) (by decide) rfl (fun ls hl => ?_)
        refine lv_goto (tgt := 4) hx hb dX2_richest_49 (by decide) ?_
        refine K9 ls (trivial) ?_
        show lv_has ls 3 [(0, .ref M.1), (1, .int (amxS (fun o => sPu σ o + gainS σ o) (n9 + 1))), (2, .int (nI (n9 + 1)))]
        rw [show amxS (fun o => sPu σ o + gainS σ o) (n9 + 1) = nI n9 from (amp_n2 (p := fun o => True) (f := fun o => sPu σ o + gainS σ o) (by have := hI.1; omega) True.intro c_1 (by rw [(show ampV (fun o => True) (fun o => sPu σ o + gainS σ o) n9 = _ from amp_vj (by have := hI.1; omega) e9)]; exact c_4)).1]
        exact lv_sub hl [2, 1, 0] rfl
  · have hl : lv_has ls 3 [(0, .ref M.1), (1, .int (amxS (fun o => sPu σ o + gainS σ o) (sK σ))), (2, .int (nI (sK σ)))] := hl
    refine lv_iload_n hx hb dX2_richest_4 rfl (lv_at hl 2 rfl) ?_
    refine lv_aload_n hx hb dX2_richest_5 rfl (lv_at hl 0 rfl) ?_
    refine va_get (D := D) (ci := 3) (v := .int (nI (sK σ))) (C := RX2) (T := TX2) (N := 13) hx hb hts in_X2_richest_X2 hown hK hP 0 rfl rfl 1 (by decide) (hts (.fieldLink RX2 38 "ShadowSocietyModel" "members" "I") (List.mem_of_getElem? (i := 1) (by decide +kernel))) (fun _ h9 => h9) rfl dX2_richest_6 ?_
    refine lv_icmp_ge (tgt := 52) hx hb dX2_richest_9 (by decide) (fun _ => ?_) (fun c9 => absurd (nI_le (Nat.le_refl _) (by have := hI.1; omega)) c9)
    refine lv_iload_n hx hb dX2_richest_52 rfl (lv_at hl 1 rfl) ?_
    exact W.iret (v := amxS (fun o => sPu σ o + gainS σ o) (sK σ)) hx hb hr (fun t ht hW => ⟨_, rfl, rfl, ht⟩) (fun q hq => absurd hq List.not_mem_nil) dX2_richest_53
theorem in_X2_hatFor_X2 : ∀ w ∈ wsX20, w ∈ wsX2_hatFor := by decide +kernel
set_option maxHeartbeats 4000000 in
set_option maxRecDepth 100000 in
/-- whose hat had best be borrowed -/
theorem c_X2_hatFor (l : Launch) (D : va_G) (cs : Cs) (M : Nat × (Nat → Nat)) (th : Int32) {B : Nat} {σ : PS} (hT : InvT B σ) (i : Nat) (hi : i < sK σ) : Met l yX2_hatFor wsX2_hatFor ({ frames := 3, cells := 0, slots := 0, locals := 65 }) (va_Pc [.ref M.1, .int (nI i)] (RBp D cs (va_P D vwCl (modW cs M th σ)))) (vp_Si (fun r : Int32 => r = bestS σ i)) 0 0 (fun _ => False) := by
  refine Met.ofW (cc := cX2_hatFor) (maxL := 5) (ret := (some .int)) (by decide) rfl ?_
  intro p e s m args below meth c s₁ B0 hml hv
  obtain ⟨rfl, hP, hK, hN⟩ := hv
  have hx := B0.exec
  have hb := B0.bytes
  have hr := B0.returns
  have hts := atoms_spec (ws := wsX2_hatFor) B0.pre
  have hown : s.vm.findClass RX2 = some m.cls := findClass_of_methodNamed B0.named
  have hlocks := B0.notSynchronized
  have hl := lv_entry ([.ref M.1, .int (nI i)]) (n := 5) (Nat.le_of_ble_eq_true rfl)
  rw [lg_entry_eq]
  generalize (lg_sl ([.ref M.1, .int (nI i)]) ++ List.replicate (5 - (lg_sl ([.ref M.1, .int (nI i)])).length) Slot.unset).toArray = ls at hl ⊢
  have hl : lv_has ls 5 [(0, .ref M.1), (1, .int (nI i))] := hl
  have hI := hT.1
  refine lv_iconst (v := (-1)) hx hb dX2_hatFor_0 (by decide) ?_
  refine lv_istore_n (lv' := [(2, .int (-1)), (0, .ref M.1), (1, .int (nI i))]) hx hb dX2_hatFor_1 rfl hl (by decide) rfl (fun ls hl => ?_)
  refine lv_iconst (v := (-1)) hx hb dX2_hatFor_2 (by decide) ?_
  refine lv_istore_n (lv' := [(3, .int (-1)), (2, .int (-1)), (0, .ref M.1), (1, .int (nI i))]) hx hb dX2_hatFor_3 rfl hl (by decide) rfl (fun ls hl => ?_)
  refine lv_iconst (v := 0) hx hb dX2_hatFor_4 (by decide) ?_
  refine lv_istore (lv' := [(4, .int 0), (3, .int (-1)), (2, .int (-1)), (0, .ref M.1), (1, .int (nI i))]) hx hb dX2_hatFor_5 hl (by decide) rfl (fun ls hl => ?_)
  refine lv_for (sK σ) (fun ls => F0 m 7 ls []) (fun n9 => [(0, .ref M.1), (1, .int (nI i)), (2, .int (ampS (fun o => canB σ i o) (fun o => hatShS σ i o) n9)), (3, .int (ampM (fun o => canB σ i o) (fun o => hatShS σ i o) n9)), (4, .int (nI n9))]) (fun _ => True) (show lv_has ls 5 [(0, .ref M.1), (1, .int (nI i)), (2, .int (ampS (fun o => canB σ i o) (fun o => hatShS σ i o) 0)), (3, .int (ampM (fun o => canB σ i o) (fun o => hatShS σ i o) 0)), (4, .int (nI 0))] from lv_sub hl [3, 4, 2, 1, 0] rfl) (trivial) (fun n9 ls hn9 hj9 hl K9 => ?_) (fun ls hj9 hl => ?_)
  · have hl : lv_has ls 5 [(0, .ref M.1), (1, .int (nI i)), (2, .int (ampS (fun o => canB σ i o) (fun o => hatShS σ i o) n9)), (3, .int (ampM (fun o => canB σ i o) (fun o => hatShS σ i o) n9)), (4, .int (nI n9))] := hl
    refine lv_iload hx hb dX2_hatFor_7 (lv_at hl 4 rfl) ?_
    refine lv_aload_n hx hb dX2_hatFor_9 rfl (lv_at hl 0 rfl) ?_
    refine va_get (D := D) (ci := 3) (v := .int (nI (sK σ))) (C := RX2) (T := TX2) (N := 13) hx hb hts in_X2_hatFor_X2 hown hK hP 0 rfl rfl 1 (by decide) (hts (.fieldLink RX2 38 "ShadowSocietyModel" "members" "I") (List.mem_of_getElem? (i := 1) (by decide +kernel))) (fun _ h9 => h9) rfl dX2_hatFor_10 ?_
    refine lv_icmp_ge (tgt := 88) hx hb dX2_hatFor_13 (by decide) (fun c9 => absurd c9 (nI_ge hn9 (by have := hI.1; omega))) (fun _ => ?_)
    refine lv_aload_n hx hb dX2_hatFor_16 rfl (lv_at hl 0 rfl) ?_
    refine lv_iload_n hx hb dX2_hatFor_17 rfl (lv_at hl 1 rfl) ?_
    refine vp_callSi (va_Run.run (va_runV (As := [.int (nI i)]) (rest := []) ⟨hx, hb, hml, hown, hts⟩ (c_X2_borrows l D cs M th hI i hi) (cwV 1 hts gX2_hatFor_X2_borrows rfl rfl rfl (by decide +kernel) ⟨Nat.le_of_ble_eq_true rfl, Nat.le_of_ble_eq_true rfl⟩) (rb_V hK hN hP (va_recv hK hP (ci := 3) (q0 := 0) rfl rfl)) rfl rfl hl.1 rfl (lv_room (Nat.le_of_ble_eq_true rfl)) dX2_hatFor_18 ⟨Nat.le_of_ble_eq_true rfl, Nat.le_of_ble_eq_true rfl⟩)) (fun r_1 hr_1 => ?_)
    rw [hr_1]
    refine lv_if_ne (tgt := 88) hx hb dX2_hatFor_21 (by decide) (fun c_2 => ?_) (fun c_2 => ?_)
    · refine lv_iload_n hx hb dX2_hatFor_88 rfl (lv_at hl 2 rfl) ?_
      exact W.iret (v := ampS (fun o => canB σ i o) (fun o => hatShS σ i o) n9) hx hb hr (fun t ht hW => ⟨_, rfl, ((amp_none (p := (fun o => canB σ i o)) (f := (fun o => hatShS σ i o)) (fun o q => q.2.2 (b01_n.mp c_2)) n9).trans (amp_none (p := (fun o => canB σ i o)) (f := (fun o => hatShS σ i o)) (fun o q => q.2.2 (b01_n.mp c_2)) (sK σ)).symm), ht⟩) (fun q hq => absurd hq List.not_mem_nil) dX2_hatFor_89
    · refine lv_iload hx hb dX2_hatFor_24 (lv_at hl 4 rfl) ?_
      refine lv_iload_n hx hb dX2_hatFor_26 rfl (lv_at hl 1 rfl) ?_
      refine lv_icmp_eq (tgt := 82) hx hb dX2_hatFor_27 (by decide) (fun c_3 => ?_) (fun c_3 => ?_)
      · refine lv_iinc (v := nI (n9 + 1)) (lv' := [(4, .int (nI (n9 + 1))), (0, .ref M.1), (1, .int (nI i)), (2, .int (ampS (fun o => canB σ i o) (fun o => hatShS σ i o) n9)), (3, .int (ampM (fun o => canB σ i o) (fun o => hatShS σ i o) n9))]) hx hb dX2_hatFor_82 hl (k := 4) rfl (nI_add _ 1) (by decide) rfl (fun ls hl => ?_)
        refine lv_goto (tgt := 7) hx hb dX2_hatFor_85 (by decide) ?_
        refine K9 ls (trivial) ?_
        show lv_has ls 5 [(0, .ref M.1), (1, .int (nI i)), (2, .int (ampS (fun o => canB σ i o) (fun o => hatShS σ i o) (n9 + 1))), (3, .int (ampM (fun o => canB σ i o) (fun o => hatShS σ i o) (n9 + 1))), (4, .int (nI (n9 + 1)))]
        rw [show ampS (fun o => canB σ i o) (fun o => hatShS σ i o) (n9 + 1) = ampS (fun o => canB σ i o) (fun o => hatShS σ i o) n9 from (ampM_skip (p := (fun o => canB σ i o)) (f := (fun o => hatShS σ i o)) (fun q => q.1 ((nI_eq (by have := hI.1; omega) (by have := hI.1; omega)).mp c_3))).1]
        rw [show ampM (fun o => canB σ i o) (fun o => hatShS σ i o) (n9 + 1) = ampM (fun o => canB σ i o) (fun o => hatShS σ i o) n9 from (ampM_skip (p := (fun o => canB σ i o)) (f := (fun o => hatShS σ i o)) (fun q => q.1 ((nI_eq (by have := hI.1; omega) (by have := hI.1; omega)).mp c_3))).2]
        exact lv_sub hl [1, 2, 3, 4, 0] rfl
      · refine lv_aload_n hx hb dX2_hatFor_30 rfl (lv_at hl 0 rfl) ?_
        refine lv_iload hx hb dX2_hatFor_31 (lv_at hl 4 rfl) ?_
        refine vp_callSi (va_Run.run (va_runV (As := [.int (nI n9)]) (rest := []) ⟨hx, hb, hml, hown, hts⟩ (c_X2_canLend l D cs M th hI n9 hn9) (cwV 1 hts gX2_hatFor_X2_canLend rfl rfl rfl (by decide +kernel) ⟨Nat.le_of_ble_eq_true rfl, Nat.le_of_ble_eq_true rfl⟩) (rb_V hK hN hP (va_recv hK hP (ci := 3) (q0 := 0) rfl rfl)) rfl rfl hl.1 rfl (lv_room (Nat.le_of_ble_eq_true rfl)) dX2_hatFor_33 ⟨Nat.le_of_ble_eq_true rfl, Nat.le_of_ble_eq_true rfl⟩)) (fun r_4 hr_4 => ?_)
        rw [hr_4]
        refine lv_if_eq (tgt := 82) hx hb dX2_hatFor_36 (by decide) (fun c_5 => ?_) (fun c_5 => ?_)
        · refine lv_iinc (v := nI (n9 + 1)) (lv' := [(4, .int (nI (n9 + 1))), (0, .ref M.1), (1, .int (nI i)), (2, .int (ampS (fun o => canB σ i o) (fun o => hatShS σ i o) n9)), (3, .int (ampM (fun o => canB σ i o) (fun o => hatShS σ i o) n9))]) hx hb dX2_hatFor_82 hl (k := 4) rfl (nI_add _ 1) (by decide) rfl (fun ls hl => ?_)
          refine lv_goto (tgt := 7) hx hb dX2_hatFor_85 (by decide) ?_
          refine K9 ls (trivial) ?_
          show lv_has ls 5 [(0, .ref M.1), (1, .int (nI i)), (2, .int (ampS (fun o => canB σ i o) (fun o => hatShS σ i o) (n9 + 1))), (3, .int (ampM (fun o => canB σ i o) (fun o => hatShS σ i o) (n9 + 1))), (4, .int (nI (n9 + 1)))]
          rw [show ampS (fun o => canB σ i o) (fun o => hatShS σ i o) (n9 + 1) = ampS (fun o => canB σ i o) (fun o => hatShS σ i o) n9 from (ampM_skip (p := (fun o => canB σ i o)) (f := (fun o => hatShS σ i o)) (fun q => b01_0.mp c_5 ((lend_iff hT hn9).mpr q.2.1))).1]
          rw [show ampM (fun o => canB σ i o) (fun o => hatShS σ i o) (n9 + 1) = ampM (fun o => canB σ i o) (fun o => hatShS σ i o) n9 from (ampM_skip (p := (fun o => canB σ i o)) (f := (fun o => hatShS σ i o)) (fun q => b01_0.mp c_5 ((lend_iff hT hn9).mpr q.2.1))).2]
          exact lv_sub hl [1, 2, 3, 4, 0] rfl
        · refine lv_aload_n hx hb dX2_hatFor_39 rfl (lv_at hl 0 rfl) ?_
          refine lv_iload_n hx hb dX2_hatFor_40 rfl (lv_at hl 1 rfl) ?_
          refine lv_aload_n hx hb dX2_hatFor_41 rfl (lv_at hl 0 rfl) ?_
          refine va_get (D := D) (ci := 3) (v := .ref (M.2 1)) (C := RX2) (T := TX2) (N := 13) hx hb hts in_X2_hatFor_X2 hown hK hP 0 rfl rfl 6 (by decide) (hts (.fieldLink RX2 13 "ShadowSocietyModel" "hat" "[I") (List.mem_of_getElem? (i := 2) (by decide +kernel))) (fun _ h9 => h9) rfl dX2_hatFor_42 ?_
          refine lv_iload hx hb dX2_hatFor_45 (lv_at hl 4 rfl) ?_
          refine va_iald hx hb hK hP 2 0 rfl rfl (vp_in_nI (by have := hI.1; omega) (by decide)) dX2_hatFor_47 ?_
          rw [show (nI n9).toNatClampNeg = n9 from nI_clamp (by have := hI.1; omega)]
          refine lv_aload_n hx hb dX2_hatFor_48 rfl (lv_at hl 0 rfl) ?_
          refine vp_callSi (va_Run.run (va_runV (As := []) (rest := [.int (sHa σ n9), .int (nI i), .ref M.1]) ⟨hx, hb, hml, hown, hts⟩ (c_X2_ofDay l D cs M th hI) (cwV 0 hts gX2_hatFor_X2_ofDay rfl rfl rfl (by decide +kernel) ⟨Nat.le_of_ble_eq_true rfl, Nat.le_of_ble_eq_true rfl⟩) (rb_V hK hN hP (va_recv hK hP (ci := 3) (q0 := 0) rfl rfl)) rfl rfl hl.1 rfl (lv_room (Nat.le_of_ble_eq_true rfl)) dX2_hatFor_49 ⟨Nat.le_of_ble_eq_true rfl, Nat.le_of_ble_eq_true rfl⟩)) (fun r_6 hr_6 => ?_)
          rw [hr_6]
          refine vp_callSi (va_Run.run (va_runV (As := [.int (nI i), .int (sHa σ n9), .int (dayOf σ)]) (rest := []) ⟨hx, hb, hml, hown, hts⟩ (c_X2_with l D cs M th hI i hi (sHa σ n9) (dayOf σ)) (cwV 3 hts gX2_hatFor_X2_with rfl rfl rfl (by decide +kernel) ⟨Nat.le_of_ble_eq_true rfl, Nat.le_of_ble_eq_true rfl⟩) (rb_V hK hN hP (va_recv hK hP (ci := 3) (q0 := 0) rfl rfl)) rfl rfl hl.1 rfl (lv_room (Nat.le_of_ble_eq_true rfl)) dX2_hatFor_52 ⟨Nat.le_of_ble_eq_true rfl, Nat.le_of_ble_eq_true rfl⟩)) (fun r_7 hr_7 => ?_)
          rw [hr_7]
          refine lv_iload_n hx hb dX2_hatFor_55 rfl (lv_at hl 3 rfl) ?_
          refine lv_icmp_gt (tgt := 62) hx hb dX2_hatFor_56 (by decide) (fun c_8 => ?_) (fun c_8 => ?_)
          · refine lv_iload hx hb dX2_hatFor_62 (lv_at hl 4 rfl) ?_
            refine lv_istore_n (lv' := [(2, .int (nI n9)), (0, .ref M.1), (1, .int (nI i)), (3, .int (ampM (fun o => canB σ i o) (fun o => hatShS σ i o) n9)), (4, .int (nI n9))]) hx hb dX2_hatFor_64 rfl hl (by decide) rfl (fun ls hl => ?_)
            refine lv_aload_n hx hb dX2_hatFor_65 rfl (lv_at hl 1 rfl) ?_
            refine lv_iload_n hx hb dX2_hatFor_66 rfl (lv_at hl 2 rfl) ?_
            refine lv_aload_n hx hb dX2_hatFor_67 rfl (lv_at hl 1 rfl) ?_
            refine va_get (D := D) (ci := 3) (v := .ref (M.2 1)) (C := RX2) (T := TX2) (N := 13) hx hb hts in_X2_hatFor_X2 hown hK hP 0 rfl rfl 6 (by decide) (hts (.fieldLink RX2 13 "ShadowSocietyModel" "hat" "[I") (List.mem_of_getElem? (i := 2) (by decide +kernel))) (fun _ h9 => h9) rfl dX2_hatFor_68 ?_
            refine lv_iload hx hb dX2_hatFor_71 (lv_at hl 4 rfl) ?_
            refine va_iald hx hb hK hP 2 0 rfl rfl (vp_in_nI (by have := hI.1; omega) (by decide)) dX2_hatFor_73 ?_
            rw [show (nI n9).toNatClampNeg = n9 from nI_clamp (by have := hI.1; omega)]
            refine lv_aload_n hx hb dX2_hatFor_74 rfl (lv_at hl 1 rfl) ?_
            refine vp_callSi (va_Run.run (va_runV (As := []) (rest := [.int (sHa σ n9), .int (nI i), .ref M.1]) ⟨hx, hb, hml, hown, hts⟩ (c_X2_ofDay l D cs M th hI) (cwV 0 hts gX2_hatFor_X2_ofDay rfl rfl rfl (by decide +kernel) ⟨Nat.le_of_ble_eq_true rfl, Nat.le_of_ble_eq_true rfl⟩) (rb_V hK hN hP (va_recv hK hP (ci := 3) (q0 := 0) rfl rfl)) rfl rfl hl.1 rfl (lv_room (Nat.le_of_ble_eq_true rfl)) dX2_hatFor_75 ⟨Nat.le_of_ble_eq_true rfl, Nat.le_of_ble_eq_true rfl⟩)) (fun r_9 hr_9 => ?_)
            rw [hr_9]
            refine vp_callSi (va_Run.run (va_runV (As := [.int (nI i), .int (sHa σ n9), .int (dayOf σ)]) (rest := []) ⟨hx, hb, hml, hown, hts⟩ (c_X2_with l D cs M th hI i hi (sHa σ n9) (dayOf σ)) (cwV 3 hts gX2_hatFor_X2_with rfl rfl rfl (by decide +kernel) ⟨Nat.le_of_ble_eq_true rfl, Nat.le_of_ble_eq_true rfl⟩) (rb_V hK hN hP (va_recv hK hP (ci := 3) (q0 := 0) rfl rfl)) rfl rfl hl.1 rfl (lv_room (Nat.le_of_ble_eq_true rfl)) dX2_hatFor_78 ⟨Nat.le_of_ble_eq_true rfl, Nat.le_of_ble_eq_true rfl⟩)) (fun r_10 hr_10 => ?_)
            rw [hr_10]
            refine lv_istore_n (lv' := [(3, .int (natSh (sHe σ i + (sHa σ n9)) (dayOf σ))), (2, .int (nI n9)), (0, .ref M.1), (1, .int (nI i)), (4, .int (nI n9))]) hx hb dX2_hatFor_81 rfl hl (by decide) rfl (fun ls hl => ?_)
            refine lv_iinc (v := nI (n9 + 1)) (lv' := [(4, .int (nI (n9 + 1))), (3, .int (natSh (sHe σ i + (sHa σ n9)) (dayOf σ))), (2, .int (nI n9)), (0, .ref M.1), (1, .int (nI i))]) hx hb dX2_hatFor_82 hl (k := 4) rfl (nI_add _ 1) (by decide) rfl (fun ls hl => ?_)
            refine lv_goto (tgt := 7) hx hb dX2_hatFor_85 (by decide) ?_
            refine K9 ls (trivial) ?_
            show lv_has ls 5 [(0, .ref M.1), (1, .int (nI i)), (2, .int (ampS (fun o => canB σ i o) (fun o => hatShS σ i o) (n9 + 1))), (3, .int (ampM (fun o => canB σ i o) (fun o => hatShS σ i o) (n9 + 1))), (4, .int (nI (n9 + 1)))]
            rw [show ampS (fun o => canB σ i o) (fun o => hatShS σ i o) (n9 + 1) = nI n9 from (ampM_n (p := (fun o => canB σ i o)) (f := (fun o => hatShS σ i o)) (by have := hI.1; omega) ⟨(fun q => c_3 (by rw [q])), ((lend_iff hT hn9).mp (b01_n.mp c_5)), b01_0.mp c_2⟩ c_8).1]
            rw [show ampM (fun o => canB σ i o) (fun o => hatShS σ i o) (n9 + 1) = natSh (sHe σ i + (sHa σ n9)) (dayOf σ) from (ampM_n (p := (fun o => canB σ i o)) (f := (fun o => hatShS σ i o)) (by have := hI.1; omega) ⟨(fun q => c_3 (by rw [q])), ((lend_iff hT hn9).mp (b01_n.mp c_5)), b01_0.mp c_2⟩ c_8).2]
            exact lv_sub hl [3, 4, 2, 1, 0] rfl
          · refine lv_goto (tgt := 82) hx hb dX2_hatFor_59 (by decide) ?_
            refine lv_iinc (v := nI (n9 + 1)) (lv' := [(4, .int (nI (n9 + 1))), (0, .ref M.1), (1, .int (nI i)), (2, .int (ampS (fun o => canB σ i o) (fun o => hatShS σ i o) n9)), (3, .int (ampM (fun o => canB σ i o) (fun o => hatShS σ i o) n9))]) hx hb dX2_hatFor_82 hl (k := 4) rfl (nI_add _ 1) (by decide) rfl (fun ls hl => ?_)
            refine lv_goto (tgt := 7) hx hb dX2_hatFor_85 (by decide) ?_
            refine K9 ls (trivial) ?_
            show lv_has ls 5 [(0, .ref M.1), (1, .int (nI i)), (2, .int (ampS (fun o => canB σ i o) (fun o => hatShS σ i o) (n9 + 1))), (3, .int (ampM (fun o => canB σ i o) (fun o => hatShS σ i o) (n9 + 1))), (4, .int (nI (n9 + 1)))]
            rw [show ampS (fun o => canB σ i o) (fun o => hatShS σ i o) (n9 + 1) = ampS (fun o => canB σ i o) (fun o => hatShS σ i o) n9 from (ampM_k (p := (fun o => canB σ i o)) (f := (fun o => hatShS σ i o)) ⟨(fun q => c_3 (by rw [q])), ((lend_iff hT hn9).mp (b01_n.mp c_5)), b01_0.mp c_2⟩ (hatSh_0 hT hi hn9) c_8).1]
            rw [show ampM (fun o => canB σ i o) (fun o => hatShS σ i o) (n9 + 1) = ampM (fun o => canB σ i o) (fun o => hatShS σ i o) n9 from (ampM_k (p := (fun o => canB σ i o)) (f := (fun o => hatShS σ i o)) ⟨(fun q => c_3 (by rw [q])), ((lend_iff hT hn9).mp (b01_n.mp c_5)), b01_0.mp c_2⟩ (hatSh_0 hT hi hn9) c_8).2]
            exact lv_sub hl [1, 2, 3, 4, 0] rfl
  · have hl : lv_has ls 5 [(0, .ref M.1), (1, .int (nI i)), (2, .int (ampS (fun o => canB σ i o) (fun o => hatShS σ i o) (sK σ))), (3, .int (ampM (fun o => canB σ i o) (fun o => hatShS σ i o) (sK σ))), (4, .int (nI (sK σ)))] := hl
    refine lv_iload hx hb dX2_hatFor_7 (lv_at hl 4 rfl) ?_
    refine lv_aload_n hx hb dX2_hatFor_9 rfl (lv_at hl 0 rfl) ?_
    refine va_get (D := D) (ci := 3) (v := .int (nI (sK σ))) (C := RX2) (T := TX2) (N := 13) hx hb hts in_X2_hatFor_X2 hown hK hP 0 rfl rfl 1 (by decide) (hts (.fieldLink RX2 38 "ShadowSocietyModel" "members" "I") (List.mem_of_getElem? (i := 1) (by decide +kernel))) (fun _ h9 => h9) rfl dX2_hatFor_10 ?_
    refine lv_icmp_ge (tgt := 88) hx hb dX2_hatFor_13 (by decide) (fun _ => ?_) (fun c9 => absurd (nI_le (Nat.le_refl _) (by have := hI.1; omega)) c9)
    refine lv_iload_n hx hb dX2_hatFor_88 rfl (lv_at hl 2 rfl) ?_
    exact W.iret (v := ampS (fun o => canB σ i o) (fun o => hatShS σ i o) (sK σ)) hx hb hr (fun t ht hW => ⟨_, rfl, rfl, ht⟩) (fun q hq => absurd hq List.not_mem_nil) dX2_hatFor_89
theorem in_X2_soonestLongest_X2 : ∀ w ∈ wsX20, w ∈ wsX2_soonestLongest := by decide +kernel
set_option maxHeartbeats 4000000 in
set_option maxRecDepth 100000 in
/-- the hour of the longest shadow -/
theorem c_X2_soonestLongest (l : Launch) (D : va_G) (cs : Cs) (M : Nat × (Nat → Nat)) (th : Int32) {B : Nat} {σ : PS} (hT : InvT B σ) (i : Nat) (hi : i < sK σ) : Met l yX2_soonestLongest wsX2_soonestLongest ({ frames := 4, cells := 0, slots := 0, locals := 87 }) (va_Pc [.ref M.1, .int (nI i)] (RBp D cs (va_P D vwCl (modW cs M th σ)))) (vp_Si (fun r : Int32 => r = longInS σ i)) 0 0 (fun _ => False) := by
  refine Met.ofW (cc := cX2_soonestLongest) (maxL := 7) (ret := (some .int)) (by decide) rfl ?_
  intro p e s m args below meth c s₁ B0 hml hv
  obtain ⟨rfl, hP, hK, hN⟩ := hv
  have hx := B0.exec
  have hb := B0.bytes
  have hr := B0.returns
  have hts := atoms_spec (ws := wsX2_soonestLongest) B0.pre
  have hown : s.vm.findClass RX2 = some m.cls := findClass_of_methodNamed B0.named
  have hlocks := B0.notSynchronized
  have hl := lv_entry ([.ref M.1, .int (nI i)]) (n := 7) (Nat.le_of_ble_eq_true rfl)
  rw [lg_entry_eq]
  generalize (lg_sl ([.ref M.1, .int (nI i)]) ++ List.replicate (7 - (lg_sl ([.ref M.1, .int (nI i)])).length) Slot.unset).toArray = ls at hl ⊢
  have hl : lv_has ls 7 [(0, .ref M.1), (1, .int (nI i))] := hl
  have hI := hT.1
  refine lv_iconst (v := 0) hx hb dX2_soonestLongest_0 (by decide) ?_
  refine lv_istore_n (lv' := [(2, .int 0), (0, .ref M.1), (1, .int (nI i))]) hx hb dX2_soonestLongest_1 rfl hl (by decide) rfl (fun ls hl => ?_)
  refine lv_iconst (v := (-1)) hx hb dX2_soonestLongest_2 (by decide) ?_
  refine lv_istore_n (lv' := [(3, .int (-1)), (2, .int 0), (0, .ref M.1), (1, .int (nI i))]) hx hb dX2_soonestLongest_3 rfl hl (by decide) rfl (fun ls hl => ?_)
  refine lv_iconst (v := 0) hx hb dX2_soonestLongest_4 (by decide) ?_
  refine lv_istore (lv' := [(4, .int 0), (3, .int (-1)), (2, .int 0), (0, .ref M.1), (1, .int (nI i))]) hx hb dX2_soonestLongest_5 hl (by decide) rfl (fun ls hl => ?_)
  refine lv_for (24) (fun ls => F0 m 7 ls []) (fun n9 => [(0, .ref M.1), (1, .int (nI i)), (2, .int (slS (fun o => aheadS σ i (nI o)) n9)), (3, .int (ampM (fun _ => True) (fun o => aheadS σ i (nI o)) n9)), (4, .int (nI n9))]) (fun _ => True) (show lv_has ls 7 [(0, .ref M.1), (1, .int (nI i)), (2, .int (slS (fun o => aheadS σ i (nI o)) 0)), (3, .int (ampM (fun _ => True) (fun o => aheadS σ i (nI o)) 0)), (4, .int (nI 0))] from lv_sub hl [3, 4, 2, 1, 0] rfl) (trivial) (fun n9 ls hn9 hj9 hl K9 => ?_) (fun ls hj9 hl => ?_)
  · have hl : lv_has ls 7 [(0, .ref M.1), (1, .int (nI i)), (2, .int (slS (fun o => aheadS σ i (nI o)) n9)), (3, .int (ampM (fun _ => True) (fun o => aheadS σ i (nI o)) n9)), (4, .int (nI n9))] := hl
    refine lv_iload hx hb dX2_soonestLongest_7 (lv_at hl 4 rfl) ?_
    refine lv_bipush (v := 24) hx hb dX2_soonestLongest_9 (by decide) ?_
    refine lv_icmp_ge (tgt := 89) hx hb dX2_soonestLongest_11 (by decide) (fun c9 => absurd c9 (nI_ge hn9 (by decide))) (fun _ => ?_)
    refine lv_aload_n hx hb dX2_soonestLongest_14 rfl (lv_at hl 0 rfl) ?_
    refine va_get (D := D) (ci := 3) (v := .int (sHr σ)) (C := RX2) (T := TX2) (N := 13) hx hb hts in_X2_soonestLongest_X2 hown hK hP 0 rfl rfl 2 (by decide) (hts (.fieldLink RX2 45 "ShadowSocietyModel" "hour" "I") (List.mem_of_getElem? (i := 1) (by decide +kernel))) (fun _ h9 => h9) rfl dX2_soonestLongest_15 ?_
    refine lv_iload hx hb dX2_soonestLongest_18 (lv_at hl 4 rfl) ?_
    refine lv_iadd hx hb dX2_soonestLongest_20 ?_
    refine lv_bipush (v := 24) hx hb dX2_soonestLongest_21 (by decide) ?_
    refine lv_irem hx hb dX2_soonestLongest_23 (by decide) ?_
    refine lv_istore (lv' := [(5, .int (((sHr σ) + (nI n9)) - ((sHr σ) + (nI n9)) / 24 * 24)), (0, .ref M.1), (1, .int (nI i)), (2, .int (slS (fun o => aheadS σ i (nI o)) n9)), (3, .int (ampM (fun _ => True) (fun o => aheadS σ i (nI o)) n9)), (4, .int (nI n9))]) hx hb dX2_soonestLongest_24 hl (by decide) rfl (fun ls hl => ?_)
    refine lv_iload hx hb dX2_soonestLongest_26 (lv_at hl 5 rfl) ?_
    refine lv_aload_n hx hb dX2_soonestLongest_28 rfl (lv_at hl 1 rfl) ?_
    refine vp_callSi (va_Run.run (va_runV (As := []) (rest := [.int (nI n9)]) ⟨hx, hb, hml, hown, hts⟩ (c_X2_untilAudit l D cs M th hI) (cwV 0 hts gX2_soonestLongest_X2_untilAudit rfl rfl rfl (by decide +kernel) ⟨Nat.le_of_ble_eq_true rfl, Nat.le_of_ble_eq_true rfl⟩) (rb_V hK hN hP (va_recv hK hP (ci := 3) (q0 := 0) rfl rfl)) rfl rfl hl.1 rfl (lv_room (Nat.le_of_ble_eq_true rfl)) dX2_soonestLongest_29 ⟨Nat.le_of_ble_eq_true rfl, Nat.le_of_ble_eq_true rfl⟩)) (fun r_1 hr_1 => ?_)
    rw [hr_1]
    refine lv_icmp_ge (tgt := 59) hx hb dX2_soonestLongest_32 (by decide) (fun c_2 => ?_) (fun c_2 => ?_)
    · refine lv_aload_n hx hb dX2_soonestLongest_59 rfl (lv_at hl 1 rfl) ?_
      refine lv_iload_n hx hb dX2_soonestLongest_60 rfl (lv_at hl 2 rfl) ?_
      refine lv_iload hx hb dX2_soonestLongest_61 (lv_at hl 0 rfl) ?_
      refine vp_callSi (va_Run.run (va_runV (As := [.int (nI i), .int (((sHr σ) + (nI n9)) - ((sHr σ) + (nI n9)) / 24 * 24)]) (rest := []) ⟨hx, hb, hml, hown, hts⟩ (c_X2_honest l D cs M th hI i hi (((sHr σ) + (nI n9)) - ((sHr σ) + (nI n9)) / 24 * 24)) (cwV 2 hts gX2_soonestLongest_X2_honest rfl rfl rfl (by decide +kernel) ⟨Nat.le_of_ble_eq_true rfl, Nat.le_of_ble_eq_true rfl⟩) (rb_V hK hN hP (va_recv hK hP (ci := 3) (q0 := 0) rfl rfl)) rfl rfl hl.1 rfl (lv_room (Nat.le_of_ble_eq_true rfl)) dX2_soonestLongest_63 ⟨Nat.le_of_ble_eq_true rfl, Nat.le_of_ble_eq_true rfl⟩)) (fun r_3 hr_3 => ?_)
      rw [hr_3]
      refine W.eq (g2 := F0 m 66 ls [.int (aheadS σ i (nI n9))]) (by rw [ahead_ge hI i hn9 c_2]) ?_
      refine lv_istore (lv' := [(6, .int (aheadS σ i (nI n9))), (5, .int (((sHr σ) + (nI n9)) - ((sHr σ) + (nI n9)) / 24 * 24)), (0, .ref M.1), (1, .int (nI i)), (2, .int (slS (fun o => aheadS σ i (nI o)) n9)), (3, .int (ampM (fun _ => True) (fun o => aheadS σ i (nI o)) n9)), (4, .int (nI n9))]) hx hb dX2_soonestLongest_66 hl (by decide) rfl (fun ls hl => ?_)
      refine lv_iload hx hb dX2_soonestLongest_68 (lv_at hl 0 rfl) ?_
      refine lv_iload_n hx hb dX2_soonestLongest_70 rfl (lv_at hl 5 rfl) ?_
      refine lv_icmp_gt (tgt := 77) hx hb dX2_soonestLongest_71 (by decide) (fun c_4 => ?_) (fun c_4 => ?_)
      · refine lv_iload hx hb dX2_soonestLongest_77 (lv_at hl 6 rfl) ?_
        refine lv_istore_n (lv' := [(2, .int (nI n9)), (6, .int (aheadS σ i (nI n9))), (5, .int (((sHr σ) + (nI n9)) - ((sHr σ) + (nI n9)) / 24 * 24)), (0, .ref M.1), (1, .int (nI i)), (3, .int (ampM (fun _ => True) (fun o => aheadS σ i (nI o)) n9)), (4, .int (nI n9))]) hx hb dX2_soonestLongest_79 rfl hl (by decide) rfl (fun ls hl => ?_)
        refine lv_iload hx hb dX2_soonestLongest_80 (lv_at hl 1 rfl) ?_
        refine lv_istore_n (lv' := [(3, .int (aheadS σ i (nI n9))), (2, .int (nI n9)), (6, .int (aheadS σ i (nI n9))), (5, .int (((sHr σ) + (nI n9)) - ((sHr σ) + (nI n9)) / 24 * 24)), (0, .ref M.1), (1, .int (nI i)), (4, .int (nI n9))]) hx hb dX2_soonestLongest_82 rfl hl (by decide) rfl (fun ls hl => ?_)
        refine lv_iinc (v := nI (n9 + 1)) (lv' := [(4, .int (nI (n9 + 1))), (3, .int (aheadS σ i (nI n9))), (2, .int (nI n9)), (6, .int (aheadS σ i (nI n9))), (5, .int (((sHr σ) + (nI n9)) - ((sHr σ) + (nI n9)) / 24 * 24)), (0, .ref M.1), (1, .int (nI i))]) hx hb dX2_soonestLongest_83 hl (k := 6) rfl (nI_add _ 1) (by decide) rfl (fun ls hl => ?_)
        refine lv_goto (tgt := 7) hx hb dX2_soonestLongest_86 (by decide) ?_
        refine K9 ls (trivial) ?_
        show lv_has ls 7 [(0, .ref M.1), (1, .int (nI i)), (2, .int (slS (fun o => aheadS σ i (nI o)) (n9 + 1))), (3, .int (ampM (fun _ => True) (fun o => aheadS σ i (nI o)) (n9 + 1))), (4, .int (nI (n9 + 1)))]
        rw [show slS (fun o => aheadS σ i (nI o)) (n9 + 1) = nI n9 from (sl_n (f := (fun o => aheadS σ i (nI o))) (by omega) c_4).1]
        rw [show ampM (fun _ => True) (fun o => aheadS σ i (nI o)) (n9 + 1) = aheadS σ i (nI n9) from (sl_n (f := (fun o => aheadS σ i (nI o))) (by omega) c_4).2]
        exact lv_sub hl [5, 6, 2, 1, 0] rfl
      · refine lv_goto (tgt := 83) hx hb dX2_soonestLongest_74 (by decide) ?_
        refine lv_iinc (v := nI (n9 + 1)) (lv' := [(4, .int (nI (n9 + 1))), (6, .int (aheadS σ i (nI n9))), (5, .int (((sHr σ) + (nI n9)) - ((sHr σ) + (nI n9)) / 24 * 24)), (0, .ref M.1), (1, .int (nI i)), (2, .int (slS (fun o => aheadS σ i (nI o)) n9)), (3, .int (ampM (fun _ => True) (fun o => aheadS σ i (nI o)) n9))]) hx hb dX2_soonestLongest_83 hl (k := 6) rfl (nI_add _ 1) (by decide) rfl (fun ls hl => ?_)
        refine lv_goto (tgt := 7) hx hb dX2_soonestLongest_86 (by decide) ?_
        refine K9 ls (trivial) ?_
        show lv_has ls 7 [(0, .ref M.1), (1, .int (nI i)), (2, .int (slS (fun o => aheadS σ i (nI o)) (n9 + 1))), (3, .int (ampM (fun _ => True) (fun o => aheadS σ i (nI o)) (n9 + 1))), (4, .int (nI (n9 + 1)))]
        rw [show slS (fun o => aheadS σ i (nI o)) (n9 + 1) = slS (fun o => aheadS σ i (nI o)) n9 from (sl_k (f := (fun o => aheadS σ i (nI o))) (ahead_ge0 hT hi _) c_4).1]
        rw [show ampM (fun _ => True) (fun o => aheadS σ i (nI o)) (n9 + 1) = ampM (fun _ => True) (fun o => aheadS σ i (nI o)) n9 from (sl_k (f := (fun o => aheadS σ i (nI o))) (ahead_ge0 hT hi _) c_4).2]
        exact lv_sub hl [3, 4, 5, 6, 0] rfl
    · refine lv_aload_n hx hb dX2_soonestLongest_35 rfl (lv_at hl 1 rfl) ?_
      refine lv_iload_n hx hb dX2_soonestLongest_36 rfl (lv_at hl 2 rfl) ?_
      refine lv_aload_n hx hb dX2_soonestLongest_37 rfl (lv_at hl 1 rfl) ?_
      refine lv_iload_n hx hb dX2_soonestLongest_38 rfl (lv_at hl 2 rfl) ?_
      refine vp_callSi (va_Run.run (va_runV (As := [.int (nI i)]) (rest := [.int (nI i), .ref M.1]) ⟨hx, hb, hml, hown, hts⟩ (c_X2_worn l D cs M th hI i hi) (cwV 1 hts gX2_soonestLongest_X2_worn rfl rfl rfl (by decide +kernel) ⟨Nat.le_of_ble_eq_true rfl, Nat.le_of_ble_eq_true rfl⟩) (rb_V hK hN hP (va_recv hK hP (ci := 3) (q0 := 0) rfl rfl)) rfl rfl hl.1 rfl (lv_room (Nat.le_of_ble_eq_true rfl)) dX2_soonestLongest_39 ⟨Nat.le_of_ble_eq_true rfl, Nat.le_of_ble_eq_true rfl⟩)) (fun r_5 hr_5 => ?_)
      rw [hr_5]
      refine lv_iload hx hb dX2_soonestLongest_42 (lv_at hl 0 rfl) ?_
      refine vp_callSi (va_Run.run (va_runV (As := [.int (nI i), .int (wornH σ i), .int (((sHr σ) + (nI n9)) - ((sHr σ) + (nI n9)) / 24 * 24)]) (rest := []) ⟨hx, hb, hml, hown, hts⟩ (c_X2_with l D cs M th hI i hi (wornH σ i) (((sHr σ) + (nI n9)) - ((sHr σ) + (nI n9)) / 24 * 24)) (cwV 3 hts gX2_soonestLongest_X2_with rfl rfl rfl (by decide +kernel) ⟨Nat.le_of_ble_eq_true rfl, Nat.le_of_ble_eq_true rfl⟩) (rb_V hK hN hP (va_recv hK hP (ci := 3) (q0 := 0) rfl rfl)) rfl rfl hl.1 rfl (lv_room (Nat.le_of_ble_eq_true rfl)) dX2_soonestLongest_44 ⟨Nat.le_of_ble_eq_true rfl, Nat.le_of_ble_eq_true rfl⟩)) (fun r_6 hr_6 => ?_)
      rw [hr_6]
      refine lv_iconst (v := 3) hx hb dX2_soonestLongest_47 (by decide) ?_
      refine lv_aload_n hx hb dX2_soonestLongest_48 rfl (lv_at hl 1 rfl) ?_
      refine va_get (D := D) (ci := 3) (v := .ref (M.2 3)) (C := RX2) (T := TX2) (N := 13) hx hb hts in_X2_soonestLongest_X2 hown hK hP 0 rfl rfl 8 (by decide) (hts (.fieldLink RX2 19 "ShadowSocietyModel" "lamp" "[I") (List.mem_of_getElem? (i := 2) (by decide +kernel))) (fun _ h9 => h9) rfl dX2_soonestLongest_49 ?_
      refine lv_iload_n hx hb dX2_soonestLongest_52 rfl (lv_at hl 2 rfl) ?_
      refine va_iald hx hb hK hP 4 0 rfl rfl (vp_in_nI (by have := hI.1; omega) (by decide)) dX2_soonestLongest_53 ?_
      rw [show (nI i).toNatClampNeg = i from nI_clamp (by have := hI.1; omega)]
      refine lv_imul hx hb dX2_soonestLongest_54 ?_
      refine lv_iadd hx hb dX2_soonestLongest_55 ?_
      refine lv_goto (tgt := 66) hx hb dX2_soonestLongest_56 (by decide) ?_
      refine W.eq (g2 := F0 m 66 ls [.int (aheadS σ i (nI n9))]) (by rw [ahead_lt hI i hn9 c_2]) ?_
      refine lv_istore (lv' := [(6, .int (aheadS σ i (nI n9))), (5, .int (((sHr σ) + (nI n9)) - ((sHr σ) + (nI n9)) / 24 * 24)), (0, .ref M.1), (1, .int (nI i)), (2, .int (slS (fun o => aheadS σ i (nI o)) n9)), (3, .int (ampM (fun _ => True) (fun o => aheadS σ i (nI o)) n9)), (4, .int (nI n9))]) hx hb dX2_soonestLongest_66 hl (by decide) rfl (fun ls hl => ?_)
      refine lv_iload hx hb dX2_soonestLongest_68 (lv_at hl 0 rfl) ?_
      refine lv_iload_n hx hb dX2_soonestLongest_70 rfl (lv_at hl 5 rfl) ?_
      refine lv_icmp_gt (tgt := 77) hx hb dX2_soonestLongest_71 (by decide) (fun c_7 => ?_) (fun c_7 => ?_)
      · refine lv_iload hx hb dX2_soonestLongest_77 (lv_at hl 6 rfl) ?_
        refine lv_istore_n (lv' := [(2, .int (nI n9)), (6, .int (aheadS σ i (nI n9))), (5, .int (((sHr σ) + (nI n9)) - ((sHr σ) + (nI n9)) / 24 * 24)), (0, .ref M.1), (1, .int (nI i)), (3, .int (ampM (fun _ => True) (fun o => aheadS σ i (nI o)) n9)), (4, .int (nI n9))]) hx hb dX2_soonestLongest_79 rfl hl (by decide) rfl (fun ls hl => ?_)
        refine lv_iload hx hb dX2_soonestLongest_80 (lv_at hl 1 rfl) ?_
        refine lv_istore_n (lv' := [(3, .int (aheadS σ i (nI n9))), (2, .int (nI n9)), (6, .int (aheadS σ i (nI n9))), (5, .int (((sHr σ) + (nI n9)) - ((sHr σ) + (nI n9)) / 24 * 24)), (0, .ref M.1), (1, .int (nI i)), (4, .int (nI n9))]) hx hb dX2_soonestLongest_82 rfl hl (by decide) rfl (fun ls hl => ?_)
        refine lv_iinc (v := nI (n9 + 1)) (lv' := [(4, .int (nI (n9 + 1))), (3, .int (aheadS σ i (nI n9))), (2, .int (nI n9)), (6, .int (aheadS σ i (nI n9))), (5, .int (((sHr σ) + (nI n9)) - ((sHr σ) + (nI n9)) / 24 * 24)), (0, .ref M.1), (1, .int (nI i))]) hx hb dX2_soonestLongest_83 hl (k := 6) rfl (nI_add _ 1) (by decide) rfl (fun ls hl => ?_)
        refine lv_goto (tgt := 7) hx hb dX2_soonestLongest_86 (by decide) ?_
        refine K9 ls (trivial) ?_
        show lv_has ls 7 [(0, .ref M.1), (1, .int (nI i)), (2, .int (slS (fun o => aheadS σ i (nI o)) (n9 + 1))), (3, .int (ampM (fun _ => True) (fun o => aheadS σ i (nI o)) (n9 + 1))), (4, .int (nI (n9 + 1)))]
        rw [show slS (fun o => aheadS σ i (nI o)) (n9 + 1) = nI n9 from (sl_n (f := (fun o => aheadS σ i (nI o))) (by omega) c_7).1]
        rw [show ampM (fun _ => True) (fun o => aheadS σ i (nI o)) (n9 + 1) = aheadS σ i (nI n9) from (sl_n (f := (fun o => aheadS σ i (nI o))) (by omega) c_7).2]
        exact lv_sub hl [5, 6, 2, 1, 0] rfl
      · refine lv_goto (tgt := 83) hx hb dX2_soonestLongest_74 (by decide) ?_
        refine lv_iinc (v := nI (n9 + 1)) (lv' := [(4, .int (nI (n9 + 1))), (6, .int (aheadS σ i (nI n9))), (5, .int (((sHr σ) + (nI n9)) - ((sHr σ) + (nI n9)) / 24 * 24)), (0, .ref M.1), (1, .int (nI i)), (2, .int (slS (fun o => aheadS σ i (nI o)) n9)), (3, .int (ampM (fun _ => True) (fun o => aheadS σ i (nI o)) n9))]) hx hb dX2_soonestLongest_83 hl (k := 6) rfl (nI_add _ 1) (by decide) rfl (fun ls hl => ?_)
        refine lv_goto (tgt := 7) hx hb dX2_soonestLongest_86 (by decide) ?_
        refine K9 ls (trivial) ?_
        show lv_has ls 7 [(0, .ref M.1), (1, .int (nI i)), (2, .int (slS (fun o => aheadS σ i (nI o)) (n9 + 1))), (3, .int (ampM (fun _ => True) (fun o => aheadS σ i (nI o)) (n9 + 1))), (4, .int (nI (n9 + 1)))]
        rw [show slS (fun o => aheadS σ i (nI o)) (n9 + 1) = slS (fun o => aheadS σ i (nI o)) n9 from (sl_k (f := (fun o => aheadS σ i (nI o))) (ahead_ge0 hT hi _) c_7).1]
        rw [show ampM (fun _ => True) (fun o => aheadS σ i (nI o)) (n9 + 1) = ampM (fun _ => True) (fun o => aheadS σ i (nI o)) n9 from (sl_k (f := (fun o => aheadS σ i (nI o))) (ahead_ge0 hT hi _) c_7).2]
        exact lv_sub hl [3, 4, 5, 6, 0] rfl
  · have hl : lv_has ls 7 [(0, .ref M.1), (1, .int (nI i)), (2, .int (slS (fun o => aheadS σ i (nI o)) 24)), (3, .int (ampM (fun _ => True) (fun o => aheadS σ i (nI o)) 24)), (4, .int (nI 24))] := hl
    refine lv_iload hx hb dX2_soonestLongest_7 (lv_at hl 4 rfl) ?_
    refine lv_bipush (v := 24) hx hb dX2_soonestLongest_9 (by decide) ?_
    refine lv_icmp_ge (tgt := 89) hx hb dX2_soonestLongest_11 (by decide) (fun _ => ?_) (fun c9 => absurd (nI_le (Nat.le_refl 24) (by decide)) c9)
    refine lv_iload_n hx hb dX2_soonestLongest_89 rfl (lv_at hl 2 rfl) ?_
    exact W.iret (v := slS (fun o => aheadS σ i (nI o)) 24) hx hb hr (fun t ht hW => ⟨_, rfl, (sl_24 σ i), ht⟩) (fun q hq => absurd hq List.not_mem_nil) dX2_soonestLongest_90
theorem in_X2_thrown_X2 : ∀ w ∈ wsX20, w ∈ wsX2_thrown := by decide +kernel
set_option maxHeartbeats 4000000 in
set_option maxRecDepth 100000 in
/-- what was thrown -/
theorem c_X2_thrown (l : Launch) (D : va_G) (cs : Cs) (M : Nat × (Nat → Nat)) (th : Int32) {B : Nat} {σ : PS} (hI : InvS B σ)  : Met l yX2_thrown wsX2_thrown ({ frames := 0, cells := 0, slots := 0, locals := 0 }) (va_Pc [.ref M.1] (RBp D cs (va_P D vwCl (modW cs M th σ)))) (vp_Si (fun r : Int32 => r = th)) 0 0 (fun _ => False) := by
  refine Met.ofW (cc := cX2_thrown) (maxL := 1) (ret := (some .int)) (by decide) rfl ?_
  intro p e s m args below meth c s₁ B0 hml hv
  obtain ⟨rfl, hP, hK, hN⟩ := hv
  have hx := B0.exec
  have hb := B0.bytes
  have hr := B0.returns
  have hts := atoms_spec (ws := wsX2_thrown) B0.pre
  have hown : s.vm.findClass RX2 = some m.cls := findClass_of_methodNamed B0.named
  have hlocks := B0.notSynchronized
  have hl := lv_entry ([.ref M.1]) (n := 1) (Nat.le_of_ble_eq_true rfl)
  rw [lg_entry_eq]
  generalize (lg_sl ([.ref M.1]) ++ List.replicate (1 - (lg_sl ([.ref M.1])).length) Slot.unset).toArray = ls at hl ⊢
  have hl : lv_has ls 1 [(0, .ref M.1)] := hl
  refine lv_aload_n hx hb dX2_thrown_0 rfl (lv_at hl 0 rfl) ?_
  refine va_get (D := D) (ci := 3) (v := .int th) (C := RX2) (T := TX2) (N := 13) hx hb hts in_X2_thrown_X2 hown hK hP 0 rfl rfl 0 (by decide) (hts (.fieldLink RX2 34 "ShadowSocietyModel" "thrown" "I") (List.mem_of_getElem? (i := 1) (by decide +kernel))) (fun _ h9 => h9) rfl dX2_thrown_1 ?_
  exact W.iret (v := th) hx hb hr (fun t ht hW => ⟨_, rfl, rfl, ht⟩) (fun q hq => absurd hq List.not_mem_nil) dX2_thrown_4
