/-! THE LIST AND THE SOCIETY: methods that only read (laid by wip/p35/gen/society.py) -/
theorem in_Jx4a65c_size_8abf5_Jx4a65c : ∀ w ∈ wsJx4a65c0, w ∈ wsJx4a65c_size_8abf5 := by decide +kernel
set_option maxHeartbeats 4000000 in
set_option maxRecDepth 100000 in
/-- ArrayList.size() -/
theorem c_Jx4a65c_size_8abf5 (l : Launch) (D : va_G) (cs : Cs) (ρ : Rf) {B : Nat} {σ : PS} (hI : InvS B σ) (hJ : InjA ρ (sK σ))  : Met l yJx4a65c_size_8abf5 wsJx4a65c_size_8abf5 ({ frames := 0, cells := 0, slots := 0, locals := 0 }) (va_Pc [.ref (r_q ρ)] (RBp D cs (LstP D cs ρ σ))) (vp_Si (fun r : Int32 => r = nI (sK σ))) 0 0 (fun _ => False) := by
  refine Met.ofW (cc := cJx4a65c_size_8abf5) (maxL := 1) (ret := (some .int)) (by decide) rfl ?_
  intro p e s m args below meth c s₁ B0 hml hv
  obtain ⟨rfl, hP, hK, hN⟩ := hv
  have hx := B0.exec
  have hb := B0.bytes
  have hr := B0.returns
  have hts := atoms_spec (ws := wsJx4a65c_size_8abf5) B0.pre
  have hown : s.vm.findClass RJx4a65c = some m.cls := findClass_of_methodNamed B0.named
  have hlocks := B0.notSynchronized
  have hl := lv_entry ([.ref (r_q ρ)]) (n := 1) (Nat.le_of_ble_eq_true rfl)
  rw [lg_entry_eq]
  generalize (lg_sl ([.ref (r_q ρ)]) ++ List.replicate (1 - (lg_sl ([.ref (r_q ρ)])).length) Slot.unset).toArray = ls at hl ⊢
  have hl : lv_has ls 1 [(0, .ref (r_q ρ))] := hl
  refine lv_aload_n hx hb dJx4a65c_size_8abf5_0 rfl (lv_at hl 0 rfl) ?_
  refine va_get (D := D) (ci := 0) (v := .int (nI (sK σ))) (C := RJx4a65c) (T := TJx4a65c) (N := 3) hx hb hts in_Jx4a65c_size_8abf5_Jx4a65c hown hK (one_P hP.1) 0 rfl rfl 2 (by decide) (hts (.fieldLink RJx4a65c 48 "java/util/ArrayList" "size" "I") (List.mem_of_getElem? (i := 1) (by decide +kernel))) (fun _ h9 => h9) rfl dJx4a65c_size_8abf5_1 ?_
  exact W.iret (v := nI (sK σ)) hx hb hr (fun t ht hW => ⟨_, rfl, rfl, ht⟩) (fun q hq => absurd hq List.not_mem_nil) dJx4a65c_size_8abf5_4
theorem in_Jx4a65c_isEmpty_aae02_Jx4a65c : ∀ w ∈ wsJx4a65c0, w ∈ wsJx4a65c_isEmpty_aae02 := by decide +kernel
set_option maxHeartbeats 4000000 in
set_option maxRecDepth 100000 in
/-- ArrayList.isEmpty() -/
theorem c_Jx4a65c_isEmpty_aae02 (l : Launch) (D : va_G) (cs : Cs) (ρ : Rf) {B : Nat} {σ : PS} (hI : InvS B σ) (hJ : InjA ρ (sK σ))  : Met l yJx4a65c_isEmpty_aae02 wsJx4a65c_isEmpty_aae02 ({ frames := 0, cells := 0, slots := 0, locals := 0 }) (va_Pc [.ref (r_q ρ)] (RBp D cs (LstP D cs ρ σ))) (vp_Si (fun r : Int32 => r = b01 (sK σ = 0))) 0 0 (fun _ => False) := by
  refine Met.ofW (cc := cJx4a65c_isEmpty_aae02) (maxL := 1) (ret := (some .boolean)) (by decide) rfl ?_
  intro p e s m args below meth c s₁ B0 hml hv
  obtain ⟨rfl, hP, hK, hN⟩ := hv
  have hx := B0.exec
  have hb := B0.bytes
  have hr := B0.returns
  have hts := atoms_spec (ws := wsJx4a65c_isEmpty_aae02) B0.pre
  have hown : s.vm.findClass RJx4a65c = some m.cls := findClass_of_methodNamed B0.named
  have hlocks := B0.notSynchronized
  have hl := lv_entry ([.ref (r_q ρ)]) (n := 1) (Nat.le_of_ble_eq_true rfl)
  rw [lg_entry_eq]
  generalize (lg_sl ([.ref (r_q ρ)]) ++ List.replicate (1 - (lg_sl ([.ref (r_q ρ)])).length) Slot.unset).toArray = ls at hl ⊢
  have hl : lv_has ls 1 [(0, .ref (r_q ρ))] := hl
  refine lv_aload_n hx hb dJx4a65c_isEmpty_aae02_0 rfl (lv_at hl 0 rfl) ?_
  refine va_get (D := D) (ci := 0) (v := .int (nI (sK σ))) (C := RJx4a65c) (T := TJx4a65c) (N := 3) hx hb hts in_Jx4a65c_isEmpty_aae02_Jx4a65c hown hK (one_P hP.1) 0 rfl rfl 2 (by decide) (hts (.fieldLink RJx4a65c 48 "java/util/ArrayList" "size" "I") (List.mem_of_getElem? (i := 1) (by decide +kernel))) (fun _ h9 => h9) rfl dJx4a65c_isEmpty_aae02_1 ?_
  refine lv_if_ne (tgt := 11) hx hb dJx4a65c_isEmpty_aae02_4 (by decide) (fun c_1 => ?_) (fun c_1 => ?_)
  · refine lv_iconst (v := 0) hx hb dJx4a65c_isEmpty_aae02_11 (by decide) ?_
    exact W.zret (ty := .boolean) (v := 0) hx hb hr rfl (fun t ht hW => ⟨_, rfl, (b01_f (fun q => c_1 (by rw [q]; rfl))).symm, ht⟩) (fun q hq => absurd hq List.not_mem_nil) dJx4a65c_isEmpty_aae02_12
  · refine lv_iconst (v := 1) hx hb dJx4a65c_isEmpty_aae02_7 (by decide) ?_
    refine lv_goto (tgt := 12) hx hb dJx4a65c_isEmpty_aae02_8 (by decide) ?_
    exact W.zret (ty := .boolean) (v := 1) hx hb hr rfl (fun t ht hW => ⟨_, rfl, (b01_t ((by have h10 := hI.1; exact (nI_eq (a := sK σ) (b := 0) (by omega) (by omega)).mp c_1))).symm, ht⟩) (fun q hq => absurd hq List.not_mem_nil) dJx4a65c_isEmpty_aae02_12
set_option maxHeartbeats 4000000 in
set_option maxRecDepth 100000 in
theorem c_J3_checkIndex_8e157 (l : Launch) (D : va_G) (cs : Cs) (i k : Nat) (hi : i < k) (hk : k < 2 ^ 31) : Met l yJ3_checkIndex_8e157 wsJ3_checkIndex_8e157 ({ frames := 0, cells := 0, slots := 0, locals := 0 }) (va_Pc [.int (nI i), .int (nI k), .null] (RBp D cs (fun _ => True))) (vp_Si (fun r : Int32 => r = nI i)) 0 0 (fun _ => False) := by
  refine Met.ofW (cc := cJ3_checkIndex_8e157) (maxL := 3) (ret := (some .int)) (by decide) rfl ?_
  intro p e s m args below meth c s₁ B0 hml hv
  obtain ⟨rfl, hP, hK, hN⟩ := hv
  have hx := B0.exec
  have hb := B0.bytes
  have hr := B0.returns
  have hts := atoms_spec (ws := wsJ3_checkIndex_8e157) B0.pre
  have hown : s.vm.findClass RJ3 = some m.cls := findClass_of_methodNamed B0.named
  have hlocks := B0.notSynchronized
  have hl := lv_entry ([.int (nI i), .int (nI k), .null]) (n := 3) (Nat.le_of_ble_eq_true rfl)
  rw [lg_entry_eq]
  generalize (lg_sl ([.int (nI i), .int (nI k), .null]) ++ List.replicate (3 - (lg_sl ([.int (nI i), .int (nI k), .null])).length) Slot.unset).toArray = ls at hl ⊢
  have hl : lv_has ls 3 [(0, .int (nI i)), (1, .int (nI k)), (2, .null)] := hl
  refine lv_iload_n hx hb dJ3_checkIndex_8e157_0 rfl (lv_at hl 0 rfl) ?_
  refine lv_if_lt (tgt := 9) hx hb dJ3_checkIndex_8e157_1 (by decide) (fun c9 => absurd c9 (nI_pos (by omega))) (fun _ => ?_)
  refine lv_iload_n hx hb dJ3_checkIndex_8e157_4 rfl (lv_at hl 0 rfl) ?_
  refine lv_iload_n hx hb dJ3_checkIndex_8e157_5 rfl (lv_at hl 1 rfl) ?_
  refine lv_icmp_lt (tgt := 16) hx hb dJ3_checkIndex_8e157_6 (by decide) (fun _ => ?_) (fun c9 => absurd (nI_lt hi hk) c9)
  refine lv_iload_n hx hb dJ3_checkIndex_8e157_16 rfl (lv_at hl 0 rfl) ?_
  exact W.iret (v := nI i) hx hb hr (fun t ht hW => ⟨_, rfl, rfl, ht⟩) (fun q hq => absurd hq List.not_mem_nil) dJ3_checkIndex_8e157_17
set_option maxHeartbeats 4000000 in
set_option maxRecDepth 100000 in
theorem c_J15_checkIndex_7cf53 (l : Launch) (D : va_G) (cs : Cs) (i k : Nat) (hi : i < k) (hk : k < 2 ^ 31) : Met l yJ15_checkIndex_7cf53 wsJ15_checkIndex_7cf53 ({ frames := 1, cells := 0, slots := 0, locals := 22 }) (va_Pc [.int (nI i), .int (nI k)] (RBp D cs (fun _ => True))) (vp_Si (fun r : Int32 => r = nI i)) 0 0 (fun _ => False) := by
  refine Met.ofW (cc := cJ15_checkIndex_7cf53) (maxL := 2) (ret := (some .int)) (by decide) rfl ?_
  intro p e s m args below meth c s₁ B0 hml hv
  obtain ⟨rfl, hP, hK, hN⟩ := hv
  have hx := B0.exec
  have hb := B0.bytes
  have hr := B0.returns
  have hts := atoms_spec (ws := wsJ15_checkIndex_7cf53) B0.pre
  have hown : s.vm.findClass RJ15 = some m.cls := findClass_of_methodNamed B0.named
  have hlocks := B0.notSynchronized
  have hl := lv_entry ([.int (nI i), .int (nI k)]) (n := 2) (Nat.le_of_ble_eq_true rfl)
  rw [lg_entry_eq]
  generalize (lg_sl ([.int (nI i), .int (nI k)]) ++ List.replicate (2 - (lg_sl ([.int (nI i), .int (nI k)])).length) Slot.unset).toArray = ls at hl ⊢
  have hl : lv_has ls 2 [(0, .int (nI i)), (1, .int (nI k))] := hl
  refine lv_iload_n hx hb dJ15_checkIndex_7cf53_0 rfl (lv_at hl 0 rfl) ?_
  refine lv_iload_n hx hb dJ15_checkIndex_7cf53_1 rfl (lv_at hl 1 rfl) ?_
  refine lv_null hx hb dJ15_checkIndex_7cf53_2 ?_
  refine vp_callSi (va_Run.run (va_runS (As := [.int (nI i), .int (nI k), .null]) (rest := []) ⟨hx, hb, hml, hown, hts⟩ (c_J3_checkIndex_8e157 l D cs i k hi hk) (va_cwS 3 hts gJ15_checkIndex_7cf53_J3_checkIndex_8e157 rfl rfl rfl (by decide +kernel) ⟨Nat.le_of_ble_eq_true rfl, Nat.le_of_ble_eq_true rfl⟩) (rb_S hK hN trivial) rfl rfl hl.1 rfl (lv_room (Nat.le_of_ble_eq_true rfl)) dJ15_checkIndex_7cf53_3 ⟨Nat.le_of_ble_eq_true rfl, Nat.le_of_ble_eq_true rfl⟩)) (fun r_1 hr_1 => ?_)
  rw [hr_1]
  exact W.iret (v := nI i) hx hb hr (fun t ht hW => ⟨_, rfl, rfl, ht⟩) (fun q hq => absurd hq List.not_mem_nil) dJ15_checkIndex_7cf53_6
theorem in_Jx4a65c_elementData_915e3_Jx4a65c : ∀ w ∈ wsJx4a65c0, w ∈ wsJx4a65c_elementData_915e3 := by decide +kernel
set_option maxHeartbeats 4000000 in
set_option maxRecDepth 100000 in
/-- ArrayList.elementData(i) -/
theorem c_Jx4a65c_elementData_915e3 (l : Launch) (D : va_G) (cs : Cs) (ρ : Rf) {B : Nat} {σ : PS} (hI : InvS B σ) (hJ : InjA ρ (sK σ)) (i : Nat) (hi : i < sK σ) : Met l yJx4a65c_elementData_915e3 wsJx4a65c_elementData_915e3 ({ frames := 0, cells := 0, slots := 0, locals := 0 }) (va_Pc [.ref (r_q ρ), .int (nI i)] (RBp D cs (LstP D cs ρ σ))) (va_Sq (fun r : Option Nat => r = some (r_a ρ i))) 0 0 (fun _ => False) := by
  refine Met.ofW (cc := cJx4a65c_elementData_915e3) (maxL := 2) (ret := (some (.object "java/lang/Object"))) (by decide) rfl ?_
  intro p e s m args below meth c s₁ B0 hml hv
  obtain ⟨rfl, hP, hK, hN⟩ := hv
  have hx := B0.exec
  have hb := B0.bytes
  have hr := B0.returns
  have hts := atoms_spec (ws := wsJx4a65c_elementData_915e3) B0.pre
  have hown : s.vm.findClass RJx4a65c = some m.cls := findClass_of_methodNamed B0.named
  have hlocks := B0.notSynchronized
  have hl := lv_entry ([.ref (r_q ρ), .int (nI i)]) (n := 2) (Nat.le_of_ble_eq_true rfl)
  rw [lg_entry_eq]
  generalize (lg_sl ([.ref (r_q ρ), .int (nI i)]) ++ List.replicate (2 - (lg_sl ([.ref (r_q ρ), .int (nI i)])).length) Slot.unset).toArray = ls at hl ⊢
  have hl : lv_has ls 2 [(0, .ref (r_q ρ)), (1, .int (nI i))] := hl
  refine lv_aload_n hx hb dJx4a65c_elementData_915e3_0 rfl (lv_at hl 0 rfl) ?_
  refine va_get (D := D) (ci := 0) (v := .ref (r_e ρ)) (C := RJx4a65c) (T := TJx4a65c) (N := 3) hx hb hts in_Jx4a65c_elementData_915e3_Jx4a65c hown hK (one_P hP.1) 0 rfl rfl 1 (by decide) (hts (.fieldLink RJx4a65c 9 "java/util/ArrayList" "elementData" "[Ljava/lang/Object;") (List.mem_of_getElem? (i := 1) (by decide +kernel))) (fun _ h9 => h9) rfl dJx4a65c_elementData_915e3_1 ?_
  refine lv_iload_n hx hb dJx4a65c_elementData_915e3_4 rfl (lv_at hl 1 rfl) ?_
  refine va_aldq hx hb hK (one_P (hP.2 (Nat.lt_of_le_of_lt (Nat.zero_le _) hi))) 0 1 rfl rfl (vp_in_nI (by have := hI.1; omega) (by decide)) dJx4a65c_elementData_915e3_5 ?_
  rw [show elm (r_a ρ) (sK σ) (nI i).toNatClampNeg = some (r_a ρ i) from by rw [nI_clamp (by have := hI.1; omega)]; exact if_pos hi]
  exact W.aret (v := va_rf (some (r_a ρ i))) (rt := (.object "java/lang/Object")) hx hb hr (Or.inl ⟨_, rfl⟩) (Or.inr ⟨_, rfl⟩) (fun t ht hW => ⟨some (r_a ρ i), rfl, rfl, ht⟩) (fun q hq => absurd hq List.not_mem_nil) dJx4a65c_elementData_915e3_6
theorem in_Jx4a65c_get_915e3_Jx4a65c : ∀ w ∈ wsJx4a65c0, w ∈ wsJx4a65c_get_915e3 := by decide +kernel
set_option maxHeartbeats 4000000 in
set_option maxRecDepth 100000 in
/-- ArrayList.get(i) -/
theorem c_Jx4a65c_get_915e3 (l : Launch) (D : va_G) (cs : Cs) (ρ : Rf) {B : Nat} {σ : PS} (hI : InvS B σ) (hJ : InjA ρ (sK σ)) (i : Nat) (hi : i < sK σ) : Met l yJx4a65c_get_915e3 wsJx4a65c_get_915e3 ({ frames := 2, cells := 0, slots := 0, locals := 43 }) (va_Pc [.ref (r_q ρ), .int (nI i)] (RBp D cs (LstP D cs ρ σ))) (va_Sq (fun r : Option Nat => r = some (r_a ρ i))) 0 0 (fun _ => False) := by
  refine Met.ofW (cc := cJx4a65c_get_915e3) (maxL := 2) (ret := (some (.object "java/lang/Object"))) (by decide) rfl ?_
  intro p e s m args below meth c s₁ B0 hml hv
  obtain ⟨rfl, hP, hK, hN⟩ := hv
  have hx := B0.exec
  have hb := B0.bytes
  have hr := B0.returns
  have hts := atoms_spec (ws := wsJx4a65c_get_915e3) B0.pre
  have hown : s.vm.findClass RJx4a65c = some m.cls := findClass_of_methodNamed B0.named
  have hlocks := B0.notSynchronized
  have hl := lv_entry ([.ref (r_q ρ), .int (nI i)]) (n := 2) (Nat.le_of_ble_eq_true rfl)
  rw [lg_entry_eq]
  generalize (lg_sl ([.ref (r_q ρ), .int (nI i)]) ++ List.replicate (2 - (lg_sl ([.ref (r_q ρ), .int (nI i)])).length) Slot.unset).toArray = ls at hl ⊢
  have hl : lv_has ls 2 [(0, .ref (r_q ρ)), (1, .int (nI i))] := hl
  refine lv_iload_n hx hb dJx4a65c_get_915e3_0 rfl (lv_at hl 1 rfl) ?_
  refine lv_aload_n hx hb dJx4a65c_get_915e3_1 rfl (lv_at hl 0 rfl) ?_
  refine va_get (D := D) (ci := 0) (v := .int (nI (sK σ))) (C := RJx4a65c) (T := TJx4a65c) (N := 3) hx hb hts in_Jx4a65c_get_915e3_Jx4a65c hown hK (one_P hP.1) 0 rfl rfl 2 (by decide) (hts (.fieldLink RJx4a65c 48 "java/util/ArrayList" "size" "I") (List.mem_of_getElem? (i := 1) (by decide +kernel))) (fun _ h9 => h9) rfl dJx4a65c_get_915e3_2 ?_
  refine vp_callSi (va_Run.run (va_runS (As := [.int (nI i), .int (nI (sK σ))]) (rest := []) ⟨hx, hb, hml, hown, hts⟩ (c_J15_checkIndex_7cf53 l D cs i (sK σ) hi (by have := hI.1; omega)) (va_cwS 2 hts gJx4a65c_get_915e3_J15_checkIndex_7cf53 rfl rfl rfl (by decide +kernel) ⟨Nat.le_of_ble_eq_true rfl, Nat.le_of_ble_eq_true rfl⟩) (rb_S hK hN trivial) rfl rfl hl.1 rfl (lv_room (Nat.le_of_ble_eq_true rfl)) dJx4a65c_get_915e3_5 ⟨Nat.le_of_ble_eq_true rfl, Nat.le_of_ble_eq_true rfl⟩)) (fun r_1 hr_1 => ?_)
  rw [hr_1]
  refine lv_pop hx hb dJx4a65c_get_915e3_8 rfl ?_
  refine lv_aload_n hx hb dJx4a65c_get_915e3_9 rfl (lv_at hl 0 rfl) ?_
  refine lv_iload_n hx hb dJx4a65c_get_915e3_10 rfl (lv_at hl 1 rfl) ?_
  refine va_csq (va_Run.run (va_runV (As := [.int (nI i)]) (rest := []) ⟨hx, hb, hml, hown, hts⟩ (c_Jx4a65c_elementData_915e3 l D cs ρ hI hJ i hi) (cwV 1 hts gJx4a65c_get_915e3_Jx4a65c_elementData_915e3 rfl rfl rfl (by decide +kernel) ⟨Nat.le_of_ble_eq_true rfl, Nat.le_of_ble_eq_true rfl⟩) (rb_V hK hN hP (va_recv hK (one_P hP.1) (ci := 0) (q0 := 0) rfl rfl)) rfl rfl hl.1 rfl (lv_room (Nat.le_of_ble_eq_true rfl)) dJx4a65c_get_915e3_11 ⟨Nat.le_of_ble_eq_true rfl, Nat.le_of_ble_eq_true rfl⟩)) (fun r_2 hr_2 => ?_)
  rw [hr_2]
  exact W.aret (v := va_rf (some (r_a ρ i))) (rt := (.object "java/lang/Object")) hx hb hr (Or.inl ⟨_, rfl⟩) (Or.inr ⟨_, rfl⟩) (fun t ht hW => ⟨some (r_a ρ i), rfl, rfl, ht⟩) (fun q hq => absurd hq List.not_mem_nil) dJx4a65c_get_915e3_14
theorem in_X1_members_X1 : ∀ w ∈ wsX10, w ∈ wsX1_members := by decide +kernel
set_option maxHeartbeats 4000000 in
set_option maxRecDepth 100000 in
theorem c_X1_members (l : Launch) (D : va_G) (cs : Cs) (ρ : Rf) {B : Nat} {σ : PS} (hI : InvS B σ) (hJ : InjA ρ (sK σ))  : Met l yX1_members wsX1_members ({ frames := 1, cells := 0, slots := 0, locals := 20 }) (va_Pc [.ref (r_h ρ)] (RBp D cs (Soc D cs ρ σ))) (vp_Si (fun r : Int32 => r = nI (sK σ))) 0 0 (fun _ => False) := by
  refine Met.ofW (cc := cX1_members) (maxL := 1) (ret := (some .int)) (by decide) rfl ?_
  intro p e s m args below meth c s₁ B0 hml hv
  obtain ⟨rfl, hP, hK, hN⟩ := hv
  have hx := B0.exec
  have hb := B0.bytes
  have hr := B0.returns
  have hts := atoms_spec (ws := wsX1_members) B0.pre
  have hown : s.vm.findClass RX1 = some m.cls := findClass_of_methodNamed B0.named
  have hlocks := B0.notSynchronized
  have hl := lv_entry ([.ref (r_h ρ)]) (n := 1) (Nat.le_of_ble_eq_true rfl)
  rw [lg_entry_eq]
  generalize (lg_sl ([.ref (r_h ρ)]) ++ List.replicate (1 - (lg_sl ([.ref (r_h ρ)])).length) Slot.unset).toArray = ls at hl ⊢
  have hl : lv_has ls 1 [(0, .ref (r_h ρ))] := hl
  refine lv_aload_n hx hb dX1_members_0 rfl (lv_at hl 0 rfl) ?_
  refine va_get (D := D) (ci := 2) (v := .ref (r_q ρ)) (C := RX1) (T := TX1) (N := 4) hx hb hts in_X1_members_X1 hown hK (one_P hP.1) 0 rfl rfl 0 (by decide) (hts (.fieldLink RX1 10 "ShadowSociety" "roll" "Ljava/util/ArrayList;") (List.mem_of_getElem? (i := 1) (by decide +kernel))) (fun _ h9 => h9) rfl dX1_members_1 ?_
  refine vp_callSi (va_Run.run (va_runV (As := []) (rest := []) ⟨hx, hb, hml, hown, hts⟩ (c_Jx4a65c_size_8abf5 l D cs ρ hI hJ) (cwV 0 hts gX1_members_Jx4a65c_size_8abf5 rfl rfl rfl (by decide +kernel) ⟨Nat.le_of_ble_eq_true rfl, Nat.le_of_ble_eq_true rfl⟩) (rb_V hK hN hP.2.1 (va_recv hK (one_P hP.2.1.1) (ci := 0) (q0 := 0) rfl rfl)) rfl rfl hl.1 rfl (lv_room (Nat.le_of_ble_eq_true rfl)) dX1_members_4 ⟨Nat.le_of_ble_eq_true rfl, Nat.le_of_ble_eq_true rfl⟩)) (fun r_1 hr_1 => ?_)
  rw [hr_1]
  exact W.iret (v := nI (sK σ)) hx hb hr (fun t ht hW => ⟨_, rfl, rfl, ht⟩) (fun q hq => absurd hq List.not_mem_nil) dX1_members_7
theorem in_X1_hour_X1 : ∀ w ∈ wsX10, w ∈ wsX1_hour := by decide +kernel
set_option maxHeartbeats 4000000 in
set_option maxRecDepth 100000 in
theorem c_X1_hour (l : Launch) (D : va_G) (cs : Cs) (ρ : Rf) {B : Nat} {σ : PS} (hI : InvS B σ) (hJ : InjA ρ (sK σ))  : Met l yX1_hour wsX1_hour ({ frames := 0, cells := 0, slots := 0, locals := 0 }) (va_Pc [.ref (r_h ρ)] (RBp D cs (Soc D cs ρ σ))) (vp_Si (fun r : Int32 => r = sHr σ)) 0 0 (fun _ => False) := by
  refine Met.ofW (cc := cX1_hour) (maxL := 1) (ret := (some .int)) (by decide) rfl ?_
  intro p e s m args below meth c s₁ B0 hml hv
  obtain ⟨rfl, hP, hK, hN⟩ := hv
  have hx := B0.exec
  have hb := B0.bytes
  have hr := B0.returns
  have hts := atoms_spec (ws := wsX1_hour) B0.pre
  have hown : s.vm.findClass RX1 = some m.cls := findClass_of_methodNamed B0.named
  have hlocks := B0.notSynchronized
  have hl := lv_entry ([.ref (r_h ρ)]) (n := 1) (Nat.le_of_ble_eq_true rfl)
  rw [lg_entry_eq]
  generalize (lg_sl ([.ref (r_h ρ)]) ++ List.replicate (1 - (lg_sl ([.ref (r_h ρ)])).length) Slot.unset).toArray = ls at hl ⊢
  have hl : lv_has ls 1 [(0, .ref (r_h ρ))] := hl
  refine lv_aload_n hx hb dX1_hour_0 rfl (lv_at hl 0 rfl) ?_
  refine va_get (D := D) (ci := 2) (v := .int (sHr σ)) (C := RX1) (T := TX1) (N := 4) hx hb hts in_X1_hour_X1 hown hK (one_P hP.1) 0 rfl rfl 1 (by decide) (hts (.fieldLink RX1 16 "ShadowSociety" "now" "I") (List.mem_of_getElem? (i := 1) (by decide +kernel))) (fun _ h9 => h9) rfl dX1_hour_1 ?_
  exact W.iret (v := sHr σ) hx hb hr (fun t ht hW => ⟨_, rfl, rfl, ht⟩) (fun q hq => absurd hq List.not_mem_nil) dX1_hour_4
theorem in_X1_hourOfDay_X1 : ∀ w ∈ wsX10, w ∈ wsX1_hourOfDay := by decide +kernel
set_option maxHeartbeats 4000000 in
set_option maxRecDepth 100000 in
theorem c_X1_hourOfDay (l : Launch) (D : va_G) (cs : Cs) (ρ : Rf) {B : Nat} {σ : PS} (hI : InvS B σ) (hJ : InjA ρ (sK σ))  : Met l yX1_hourOfDay wsX1_hourOfDay ({ frames := 0, cells := 0, slots := 0, locals := 0 }) (va_Pc [.ref (r_h ρ)] (RBp D cs (Soc D cs ρ σ))) (vp_Si (fun r : Int32 => r = dayOf σ)) 0 0 (fun _ => False) := by
  refine Met.ofW (cc := cX1_hourOfDay) (maxL := 1) (ret := (some .int)) (by decide) rfl ?_
  intro p e s m args below meth c s₁ B0 hml hv
  obtain ⟨rfl, hP, hK, hN⟩ := hv
  have hx := B0.exec
  have hb := B0.bytes
  have hr := B0.returns
  have hts := atoms_spec (ws := wsX1_hourOfDay) B0.pre
  have hown : s.vm.findClass RX1 = some m.cls := findClass_of_methodNamed B0.named
  have hlocks := B0.notSynchronized
  have hl := lv_entry ([.ref (r_h ρ)]) (n := 1) (Nat.le_of_ble_eq_true rfl)
  rw [lg_entry_eq]
  generalize (lg_sl ([.ref (r_h ρ)]) ++ List.replicate (1 - (lg_sl ([.ref (r_h ρ)])).length) Slot.unset).toArray = ls at hl ⊢
  have hl : lv_has ls 1 [(0, .ref (r_h ρ))] := hl
  refine lv_aload_n hx hb dX1_hourOfDay_0 rfl (lv_at hl 0 rfl) ?_
  refine va_get (D := D) (ci := 2) (v := .int (sHr σ)) (C := RX1) (T := TX1) (N := 4) hx hb hts in_X1_hourOfDay_X1 hown hK (one_P hP.1) 0 rfl rfl 1 (by decide) (hts (.fieldLink RX1 16 "ShadowSociety" "now" "I") (List.mem_of_getElem? (i := 1) (by decide +kernel))) (fun _ h9 => h9) rfl dX1_hourOfDay_1 ?_
  refine lv_bipush (v := 24) hx hb dX1_hourOfDay_4 (by decide) ?_
  refine lv_irem hx hb dX1_hourOfDay_6 (by decide) ?_
  exact W.iret (v := (sHr σ) - (sHr σ) / 24 * 24) hx hb hr (fun t ht hW => ⟨_, rfl, rfl, ht⟩) (fun q hq => absurd hq List.not_mem_nil) dX1_hourOfDay_7
theorem in_X1_seized_X1 : ∀ w ∈ wsX10, w ∈ wsX1_seized := by decide +kernel
set_option maxHeartbeats 4000000 in
set_option maxRecDepth 100000 in
theorem c_X1_seized (l : Launch) (D : va_G) (cs : Cs) (ρ : Rf) {B : Nat} {σ : PS} (hI : InvS B σ) (hJ : InjA ρ (sK σ))  : Met l yX1_seized wsX1_seized ({ frames := 0, cells := 0, slots := 0, locals := 0 }) (va_Pc [.ref (r_h ρ)] (RBp D cs (Soc D cs ρ σ))) (vp_Si (fun r : Int32 => r = sSz σ)) 0 0 (fun _ => False) := by
  refine Met.ofW (cc := cX1_seized) (maxL := 1) (ret := (some .int)) (by decide) rfl ?_
  intro p e s m args below meth c s₁ B0 hml hv
  obtain ⟨rfl, hP, hK, hN⟩ := hv
  have hx := B0.exec
  have hb := B0.bytes
  have hr := B0.returns
  have hts := atoms_spec (ws := wsX1_seized) B0.pre
  have hown : s.vm.findClass RX1 = some m.cls := findClass_of_methodNamed B0.named
  have hlocks := B0.notSynchronized
  have hl := lv_entry ([.ref (r_h ρ)]) (n := 1) (Nat.le_of_ble_eq_true rfl)
  rw [lg_entry_eq]
  generalize (lg_sl ([.ref (r_h ρ)]) ++ List.replicate (1 - (lg_sl ([.ref (r_h ρ)])).length) Slot.unset).toArray = ls at hl ⊢
  have hl : lv_has ls 1 [(0, .ref (r_h ρ))] := hl
  refine lv_aload_n hx hb dX1_seized_0 rfl (lv_at hl 0 rfl) ?_
  refine va_get (D := D) (ci := 2) (v := .int (sSz σ)) (C := RX1) (T := TX1) (N := 4) hx hb hts in_X1_seized_X1 hown hK (one_P hP.1) 0 rfl rfl 2 (by decide) (hts (.fieldLink RX1 20 "ShadowSociety" "seizedInAll" "I") (List.mem_of_getElem? (i := 1) (by decide +kernel))) (fun _ h9 => h9) rfl dX1_seized_1 ?_
  exact W.iret (v := sSz σ) hx hb hr (fun t ht hW => ⟨_, rfl, rfl, ht⟩) (fun q hq => absurd hq List.not_mem_nil) dX1_seized_4
theorem in_X1_revoked_X1 : ∀ w ∈ wsX10, w ∈ wsX1_revoked := by decide +kernel
set_option maxHeartbeats 4000000 in
set_option maxRecDepth 100000 in
theorem c_X1_revoked (l : Launch) (D : va_G) (cs : Cs) (ρ : Rf) {B : Nat} {σ : PS} (hI : InvS B σ) (hJ : InjA ρ (sK σ))  : Met l yX1_revoked wsX1_revoked ({ frames := 0, cells := 0, slots := 0, locals := 0 }) (va_Pc [.ref (r_h ρ)] (RBp D cs (Soc D cs ρ σ))) (vp_Si (fun r : Int32 => r = sRv σ)) 0 0 (fun _ => False) := by
  refine Met.ofW (cc := cX1_revoked) (maxL := 1) (ret := (some .int)) (by decide) rfl ?_
  intro p e s m args below meth c s₁ B0 hml hv
  obtain ⟨rfl, hP, hK, hN⟩ := hv
  have hx := B0.exec
  have hb := B0.bytes
  have hr := B0.returns
  have hts := atoms_spec (ws := wsX1_revoked) B0.pre
  have hown : s.vm.findClass RX1 = some m.cls := findClass_of_methodNamed B0.named
  have hlocks := B0.notSynchronized
  have hl := lv_entry ([.ref (r_h ρ)]) (n := 1) (Nat.le_of_ble_eq_true rfl)
  rw [lg_entry_eq]
  generalize (lg_sl ([.ref (r_h ρ)]) ++ List.replicate (1 - (lg_sl ([.ref (r_h ρ)])).length) Slot.unset).toArray = ls at hl ⊢
  have hl : lv_has ls 1 [(0, .ref (r_h ρ))] := hl
  refine lv_aload_n hx hb dX1_revoked_0 rfl (lv_at hl 0 rfl) ?_
  refine va_get (D := D) (ci := 2) (v := .int (sRv σ)) (C := RX1) (T := TX1) (N := 4) hx hb hts in_X1_revoked_X1 hown hK (one_P hP.1) 0 rfl rfl 3 (by decide) (hts (.fieldLink RX1 23 "ShadowSociety" "revokedInAll" "I") (List.mem_of_getElem? (i := 1) (by decide +kernel))) (fun _ h9 => h9) rfl dX1_revoked_1 ?_
  exact W.iret (v := sRv σ) hx hb hr (fun t ht hW => ⟨_, rfl, rfl, ht⟩) (fun q hq => absurd hq List.not_mem_nil) dX1_revoked_4
theorem in_X1_certificates_X1 : ∀ w ∈ wsX10, w ∈ wsX1_certificates := by decide +kernel
set_option maxHeartbeats 4000000 in
set_option maxRecDepth 100000 in
/-- how many: a loop over the members -/
theorem c_X1_certificates (l : Launch) (D : va_G) (cs : Cs) (ρ : Rf) {B : Nat} {σ : PS} (hI : InvS B σ) (hJ : InjA ρ (sK σ))  : Met l yX1_certificates wsX1_certificates ({ frames := 3, cells := 0, slots := 0, locals := 64 }) (va_Pc [.ref (r_h ρ)] (RBp D cs (Soc D cs ρ σ))) (vp_Si (fun r : Int32 => r = certsS σ)) 0 0 (fun _ => False) := by
  refine Met.ofW (cc := cX1_certificates) (maxL := 3) (ret := (some .int)) (by decide) rfl ?_
  intro p e s m args below meth c s₁ B0 hml hv
  obtain ⟨rfl, hP, hK, hN⟩ := hv
  have hx := B0.exec
  have hb := B0.bytes
  have hr := B0.returns
  have hts := atoms_spec (ws := wsX1_certificates) B0.pre
  have hown : s.vm.findClass RX1 = some m.cls := findClass_of_methodNamed B0.named
  have hlocks := B0.notSynchronized
  have hl := lv_entry ([.ref (r_h ρ)]) (n := 3) (Nat.le_of_ble_eq_true rfl)
  rw [lg_entry_eq]
  generalize (lg_sl ([.ref (r_h ρ)]) ++ List.replicate (3 - (lg_sl ([.ref (r_h ρ)])).length) Slot.unset).toArray = ls at hl ⊢
  have hl : lv_has ls 3 [(0, .ref (r_h ρ))] := hl
  refine lv_iconst (v := 0) hx hb dX1_certificates_0 (by decide) ?_
  refine lv_istore_n (lv' := [(1, .int 0), (0, .ref (r_h ρ))]) hx hb dX1_certificates_1 rfl hl (by decide) rfl (fun ls hl => ?_)
  refine lv_iconst (v := 0) hx hb dX1_certificates_2 (by decide) ?_
  refine lv_istore_n (lv' := [(2, .int 0), (1, .int 0), (0, .ref (r_h ρ))]) hx hb dX1_certificates_3 rfl hl (by decide) rfl (fun ls hl => ?_)
  refine lv_for (sK σ) (fun ls => F0 m 4 ls []) (fun n9 => [(0, .ref (r_h ρ)), (1, .int (cntS (fun i => hasC σ i) n9)), (2, .int (nI n9))]) (fun _ => True) (show lv_has ls 3 [(0, .ref (r_h ρ)), (1, .int (cntS (fun i => hasC σ i) 0)), (2, .int (nI 0))] from lv_sub hl [2, 1, 0] rfl) (trivial) (fun n9 ls hn9 hj9 hl K9 => ?_) (fun ls hj9 hl => ?_)
  · have hl : lv_has ls 3 [(0, .ref (r_h ρ)), (1, .int (cntS (fun i => hasC σ i) n9)), (2, .int (nI n9))] := hl
    refine lv_iload_n hx hb dX1_certificates_4 rfl (lv_at hl 2 rfl) ?_
    refine lv_aload_n hx hb dX1_certificates_5 rfl (lv_at hl 0 rfl) ?_
    refine va_get (D := D) (ci := 2) (v := .ref (r_q ρ)) (C := RX1) (T := TX1) (N := 4) hx hb hts in_X1_certificates_X1 hown hK (one_P hP.1) 0 rfl rfl 0 (by decide) (hts (.fieldLink RX1 10 "ShadowSociety" "roll" "Ljava/util/ArrayList;") (List.mem_of_getElem? (i := 1) (by decide +kernel))) (fun _ h9 => h9) rfl dX1_certificates_6 ?_
    refine vp_callSi (va_Run.run (va_runV (As := []) (rest := [.int (nI n9)]) ⟨hx, hb, hml, hown, hts⟩ (c_Jx4a65c_size_8abf5 l D cs ρ hI hJ) (cwV 0 hts gX1_certificates_Jx4a65c_size_8abf5 rfl rfl rfl (by decide +kernel) ⟨Nat.le_of_ble_eq_true rfl, Nat.le_of_ble_eq_true rfl⟩) (rb_V hK hN hP.2.1 (va_recv hK (one_P hP.2.1.1) (ci := 0) (q0 := 0) rfl rfl)) rfl rfl hl.1 rfl (lv_room (Nat.le_of_ble_eq_true rfl)) dX1_certificates_9 ⟨Nat.le_of_ble_eq_true rfl, Nat.le_of_ble_eq_true rfl⟩)) (fun r_1 hr_1 => ?_)
    rw [hr_1]
    refine lv_icmp_ge (tgt := 41) hx hb dX1_certificates_12 (by decide) (fun c9 => absurd c9 (nI_ge hn9 (by have := hI.1; omega))) (fun _ => ?_)
    refine lv_aload_n hx hb dX1_certificates_15 rfl (lv_at hl 0 rfl) ?_
    refine va_get (D := D) (ci := 2) (v := .ref (r_q ρ)) (C := RX1) (T := TX1) (N := 4) hx hb hts in_X1_certificates_X1 hown hK (one_P hP.1) 0 rfl rfl 0 (by decide) (hts (.fieldLink RX1 10 "ShadowSociety" "roll" "Ljava/util/ArrayList;") (List.mem_of_getElem? (i := 1) (by decide +kernel))) (fun _ h9 => h9) rfl dX1_certificates_16 ?_
    refine lv_iload_n hx hb dX1_certificates_19 rfl (lv_at hl 2 rfl) ?_
    refine va_csq (va_Run.run (va_runV (As := [.int (nI n9)]) (rest := []) ⟨hx, hb, hml, hown, hts⟩ (c_Jx4a65c_get_915e3 l D cs ρ hI hJ n9 hn9) (cwV 1 hts gX1_certificates_Jx4a65c_get_915e3 rfl rfl rfl (by decide +kernel) ⟨Nat.le_of_ble_eq_true rfl, Nat.le_of_ble_eq_true rfl⟩) (rb_V hK hN hP.2.1 (va_recv hK (one_P hP.2.1.1) (ci := 0) (q0 := 0) rfl rfl)) rfl rfl hl.1 rfl (lv_room (Nat.le_of_ble_eq_true rfl)) dX1_certificates_20 ⟨Nat.le_of_ble_eq_true rfl, Nat.le_of_ble_eq_true rfl⟩)) (fun r_2 hr_2 => ?_)
    rw [hr_2]
    refine va_castS (nm := RX0) hx hb hown (hts (.classLink RX1 44 RX0) (List.mem_of_getElem? (i := 2) (by decide +kernel))) (hK.1 1 _ rfl).2 (va_recv hK (one_P (hP.2.2 n9 hn9)) (ci := 1) (q0 := 0) rfl rfl) dX1_certificates_23 ?_
    refine vp_callSi (va_Run.run (va_runVN (As := []) (rest := []) ⟨hx, hb, hml, hown, hts⟩ (c_X0_hasCertificate l D cs ρ hI hJ n9 hn9) ⟨va_cnB 0 hts gX1_certificates_X0_hasCertificate_n129 rfl rfl rfl (hN (.methodLinkNest "ShadowSociety" 129 ⟨"ShadowSociety$Member", "hasCertificate", "()Z"⟩ "ShadowSociety") (by decide +kernel)) (hts (.initialized RX0) (List.mem_of_getElem? (i := 27) (by decide +kernel))) (by decide +kernel) ⟨Nat.le_of_ble_eq_true rfl, Nat.le_of_ble_eq_true rfl⟩, hts (.instanceMethod yX0_hasCertificate) (List.mem_of_getElem? (i := 26) (by decide +kernel)), hts (.selects RX0 yX0_hasCertificate yX0_hasCertificate) (List.mem_of_getElem? (i := 28) (by decide +kernel))⟩ (rb_V hK hN hP.2.2 (va_recv hK (one_P (hP.2.2 n9 hn9)) (ci := 1) (q0 := 0) rfl rfl)) rfl rfl hl.1 rfl (lv_room (Nat.le_of_ble_eq_true rfl)) dX1_certificates_26 ⟨Nat.le_of_ble_eq_true rfl, Nat.le_of_ble_eq_true rfl⟩)) (fun r_3 hr_3 => ?_)
    rw [hr_3]
    refine lv_if_eq (tgt := 35) hx hb dX1_certificates_29 (by decide) (fun c_4 => ?_) (fun c_4 => ?_)
    · refine lv_iinc (v := nI (n9 + 1)) (lv' := [(2, .int (nI (n9 + 1))), (0, .ref (r_h ρ)), (1, .int (cntS (fun i => hasC σ i) n9))]) hx hb dX1_certificates_35 hl (k := 2) rfl (nI_add _ 1) (by decide) rfl (fun ls hl => ?_)
      refine lv_goto (tgt := 4) hx hb dX1_certificates_38 (by decide) ?_
      refine K9 ls (trivial) ?_
      show lv_has ls 3 [(0, .ref (r_h ρ)), (1, .int (cntS (fun i => hasC σ i) (n9 + 1))), (2, .int (nI (n9 + 1)))]
      rw [show cntS (fun i => hasC σ i) (n9 + 1) = cntS (fun i => hasC σ i) n9 from cnt_f (p := fun i => hasC σ i) (b01_0.mp c_4)]
      exact lv_sub hl [1, 2, 0] rfl
    · refine lv_iinc (v := (cntS (fun i => hasC σ i) n9) + 1) (lv' := [(1, .int ((cntS (fun i => hasC σ i) n9) + 1)), (0, .ref (r_h ρ)), (2, .int (nI n9))]) hx hb dX1_certificates_32 hl (k := 1) rfl rfl (by decide) rfl (fun ls hl => ?_)
      refine lv_iinc (v := nI (n9 + 1)) (lv' := [(2, .int (nI (n9 + 1))), (1, .int ((cntS (fun i => hasC σ i) n9) + 1)), (0, .ref (r_h ρ))]) hx hb dX1_certificates_35 hl (k := 2) rfl (nI_add _ 1) (by decide) rfl (fun ls hl => ?_)
      refine lv_goto (tgt := 4) hx hb dX1_certificates_38 (by decide) ?_
      refine K9 ls (trivial) ?_
      show lv_has ls 3 [(0, .ref (r_h ρ)), (1, .int (cntS (fun i => hasC σ i) (n9 + 1))), (2, .int (nI (n9 + 1)))]
      rw [show cntS (fun i => hasC σ i) (n9 + 1) = (cntS (fun i => hasC σ i) n9) + 1 from cnt_t (p := fun i => hasC σ i) (b01_n.mp c_4)]
      exact lv_sub hl [2, 1, 0] rfl
  · have hl : lv_has ls 3 [(0, .ref (r_h ρ)), (1, .int (cntS (fun i => hasC σ i) (sK σ))), (2, .int (nI (sK σ)))] := hl
    refine lv_iload_n hx hb dX1_certificates_4 rfl (lv_at hl 2 rfl) ?_
    refine lv_aload_n hx hb dX1_certificates_5 rfl (lv_at hl 0 rfl) ?_
    refine va_get (D := D) (ci := 2) (v := .ref (r_q ρ)) (C := RX1) (T := TX1) (N := 4) hx hb hts in_X1_certificates_X1 hown hK (one_P hP.1) 0 rfl rfl 0 (by decide) (hts (.fieldLink RX1 10 "ShadowSociety" "roll" "Ljava/util/ArrayList;") (List.mem_of_getElem? (i := 1) (by decide +kernel))) (fun _ h9 => h9) rfl dX1_certificates_6 ?_
    refine vp_callSi (va_Run.run (va_runV (As := []) (rest := [.int (nI (sK σ))]) ⟨hx, hb, hml, hown, hts⟩ (c_Jx4a65c_size_8abf5 l D cs ρ hI hJ) (cwV 0 hts gX1_certificates_Jx4a65c_size_8abf5 rfl rfl rfl (by decide +kernel) ⟨Nat.le_of_ble_eq_true rfl, Nat.le_of_ble_eq_true rfl⟩) (rb_V hK hN hP.2.1 (va_recv hK (one_P hP.2.1.1) (ci := 0) (q0 := 0) rfl rfl)) rfl rfl hl.1 rfl (lv_room (Nat.le_of_ble_eq_true rfl)) dX1_certificates_9 ⟨Nat.le_of_ble_eq_true rfl, Nat.le_of_ble_eq_true rfl⟩)) (fun r_5 hr_5 => ?_)
    rw [hr_5]
    refine lv_icmp_ge (tgt := 41) hx hb dX1_certificates_12 (by decide) (fun _ => ?_) (fun c9 => absurd (nI_le (Nat.le_refl _) (by have := hI.1; omega)) c9)
    refine lv_iload_n hx hb dX1_certificates_41 rfl (lv_at hl 1 rfl) ?_
    exact W.iret (v := cntS (fun i => hasC σ i) (sK σ)) hx hb hr (fun t ht hW => ⟨_, rfl, rfl, ht⟩) (fun q hq => absurd hq List.not_mem_nil) dX1_certificates_42
theorem in_X1_honestOnes_X1 : ∀ w ∈ wsX10, w ∈ wsX1_honestOnes := by decide +kernel
set_option maxHeartbeats 4000000 in
set_option maxRecDepth 100000 in
/-- how many: a loop over the members -/
theorem c_X1_honestOnes (l : Launch) (D : va_G) (cs : Cs) (ρ : Rf) {B : Nat} {σ : PS} (hI : InvS B σ) (hJ : InjA ρ (sK σ))  : Met l yX1_honestOnes wsX1_honestOnes ({ frames := 4, cells := 0, slots := 0, locals := 76 }) (va_Pc [.ref (r_h ρ)] (RBp D cs (Soc D cs ρ σ))) (vp_Si (fun r : Int32 => r = honOS σ)) 0 0 (fun _ => False) := by
  refine Met.ofW (cc := cX1_honestOnes) (maxL := 3) (ret := (some .int)) (by decide) rfl ?_
  intro p e s m args below meth c s₁ B0 hml hv
  obtain ⟨rfl, hP, hK, hN⟩ := hv
  have hx := B0.exec
  have hb := B0.bytes
  have hr := B0.returns
  have hts := atoms_spec (ws := wsX1_honestOnes) B0.pre
  have hown : s.vm.findClass RX1 = some m.cls := findClass_of_methodNamed B0.named
  have hlocks := B0.notSynchronized
  have hl := lv_entry ([.ref (r_h ρ)]) (n := 3) (Nat.le_of_ble_eq_true rfl)
  rw [lg_entry_eq]
  generalize (lg_sl ([.ref (r_h ρ)]) ++ List.replicate (3 - (lg_sl ([.ref (r_h ρ)])).length) Slot.unset).toArray = ls at hl ⊢
  have hl : lv_has ls 3 [(0, .ref (r_h ρ))] := hl
  refine lv_iconst (v := 0) hx hb dX1_honestOnes_0 (by decide) ?_
  refine lv_istore_n (lv' := [(1, .int 0), (0, .ref (r_h ρ))]) hx hb dX1_honestOnes_1 rfl hl (by decide) rfl (fun ls hl => ?_)
  refine lv_iconst (v := 0) hx hb dX1_honestOnes_2 (by decide) ?_
  refine lv_istore_n (lv' := [(2, .int 0), (1, .int 0), (0, .ref (r_h ρ))]) hx hb dX1_honestOnes_3 rfl hl (by decide) rfl (fun ls hl => ?_)
  refine lv_for (sK σ) (fun ls => F0 m 4 ls []) (fun n9 => [(0, .ref (r_h ρ)), (1, .int (cntS (fun i => hasC σ i ∧ truC σ i) n9)), (2, .int (nI n9))]) (fun _ => True) (show lv_has ls 3 [(0, .ref (r_h ρ)), (1, .int (cntS (fun i => hasC σ i ∧ truC σ i) 0)), (2, .int (nI 0))] from lv_sub hl [2, 1, 0] rfl) (trivial) (fun n9 ls hn9 hj9 hl K9 => ?_) (fun ls hj9 hl => ?_)
  · have hl : lv_has ls 3 [(0, .ref (r_h ρ)), (1, .int (cntS (fun i => hasC σ i ∧ truC σ i) n9)), (2, .int (nI n9))] := hl
    refine lv_iload_n hx hb dX1_honestOnes_4 rfl (lv_at hl 2 rfl) ?_
    refine lv_aload_n hx hb dX1_honestOnes_5 rfl (lv_at hl 0 rfl) ?_
    refine va_get (D := D) (ci := 2) (v := .ref (r_q ρ)) (C := RX1) (T := TX1) (N := 4) hx hb hts in_X1_honestOnes_X1 hown hK (one_P hP.1) 0 rfl rfl 0 (by decide) (hts (.fieldLink RX1 10 "ShadowSociety" "roll" "Ljava/util/ArrayList;") (List.mem_of_getElem? (i := 1) (by decide +kernel))) (fun _ h9 => h9) rfl dX1_honestOnes_6 ?_
    refine vp_callSi (va_Run.run (va_runV (As := []) (rest := [.int (nI n9)]) ⟨hx, hb, hml, hown, hts⟩ (c_Jx4a65c_size_8abf5 l D cs ρ hI hJ) (cwV 0 hts gX1_honestOnes_Jx4a65c_size_8abf5 rfl rfl rfl (by decide +kernel) ⟨Nat.le_of_ble_eq_true rfl, Nat.le_of_ble_eq_true rfl⟩) (rb_V hK hN hP.2.1 (va_recv hK (one_P hP.2.1.1) (ci := 0) (q0 := 0) rfl rfl)) rfl rfl hl.1 rfl (lv_room (Nat.le_of_ble_eq_true rfl)) dX1_honestOnes_9 ⟨Nat.le_of_ble_eq_true rfl, Nat.le_of_ble_eq_true rfl⟩)) (fun r_1 hr_1 => ?_)
    rw [hr_1]
    refine lv_icmp_ge (tgt := 41) hx hb dX1_honestOnes_12 (by decide) (fun c9 => absurd c9 (nI_ge hn9 (by have := hI.1; omega))) (fun _ => ?_)
    refine lv_aload_n hx hb dX1_honestOnes_15 rfl (lv_at hl 0 rfl) ?_
    refine va_get (D := D) (ci := 2) (v := .ref (r_q ρ)) (C := RX1) (T := TX1) (N := 4) hx hb hts in_X1_honestOnes_X1 hown hK (one_P hP.1) 0 rfl rfl 0 (by decide) (hts (.fieldLink RX1 10 "ShadowSociety" "roll" "Ljava/util/ArrayList;") (List.mem_of_getElem? (i := 1) (by decide +kernel))) (fun _ h9 => h9) rfl dX1_honestOnes_16 ?_
    refine lv_iload_n hx hb dX1_honestOnes_19 rfl (lv_at hl 2 rfl) ?_
    refine va_csq (va_Run.run (va_runV (As := [.int (nI n9)]) (rest := []) ⟨hx, hb, hml, hown, hts⟩ (c_Jx4a65c_get_915e3 l D cs ρ hI hJ n9 hn9) (cwV 1 hts gX1_honestOnes_Jx4a65c_get_915e3 rfl rfl rfl (by decide +kernel) ⟨Nat.le_of_ble_eq_true rfl, Nat.le_of_ble_eq_true rfl⟩) (rb_V hK hN hP.2.1 (va_recv hK (one_P hP.2.1.1) (ci := 0) (q0 := 0) rfl rfl)) rfl rfl hl.1 rfl (lv_room (Nat.le_of_ble_eq_true rfl)) dX1_honestOnes_20 ⟨Nat.le_of_ble_eq_true rfl, Nat.le_of_ble_eq_true rfl⟩)) (fun r_2 hr_2 => ?_)
    rw [hr_2]
    refine va_castS (nm := RX0) hx hb hown (hts (.classLink RX1 44 RX0) (List.mem_of_getElem? (i := 2) (by decide +kernel))) (hK.1 1 _ rfl).2 (va_recv hK (one_P (hP.2.2 n9 hn9)) (ci := 1) (q0 := 0) rfl rfl) dX1_honestOnes_23 ?_
    refine vp_callSi (va_Run.run (va_runVN (As := []) (rest := []) ⟨hx, hb, hml, hown, hts⟩ (c_X0_hasHonestCertificate l D cs ρ hI hJ n9 hn9) ⟨va_cnB 0 hts gX1_honestOnes_X0_hasHonestCertificate_n132 rfl rfl rfl (hN (.methodLinkNest "ShadowSociety" 132 ⟨"ShadowSociety$Member", "hasHonestCertificate", "()Z"⟩ "ShadowSociety") (by decide +kernel)) (hts (.initialized RX0) (List.mem_of_getElem? (i := 27) (by decide +kernel))) (by decide +kernel) ⟨Nat.le_of_ble_eq_true rfl, Nat.le_of_ble_eq_true rfl⟩, hts (.instanceMethod yX0_hasHonestCertificate) (List.mem_of_getElem? (i := 26) (by decide +kernel)), hts (.selects RX0 yX0_hasHonestCertificate yX0_hasHonestCertificate) (List.mem_of_getElem? (i := 28) (by decide +kernel))⟩ (rb_V hK hN hP.2.2 (va_recv hK (one_P (hP.2.2 n9 hn9)) (ci := 1) (q0 := 0) rfl rfl)) rfl rfl hl.1 rfl (lv_room (Nat.le_of_ble_eq_true rfl)) dX1_honestOnes_26 ⟨Nat.le_of_ble_eq_true rfl, Nat.le_of_ble_eq_true rfl⟩)) (fun r_3 hr_3 => ?_)
    rw [hr_3]
    refine lv_if_eq (tgt := 35) hx hb dX1_honestOnes_29 (by decide) (fun c_4 => ?_) (fun c_4 => ?_)
    · refine lv_iinc (v := nI (n9 + 1)) (lv' := [(2, .int (nI (n9 + 1))), (0, .ref (r_h ρ)), (1, .int (cntS (fun i => hasC σ i ∧ truC σ i) n9))]) hx hb dX1_honestOnes_35 hl (k := 2) rfl (nI_add _ 1) (by decide) rfl (fun ls hl => ?_)
      refine lv_goto (tgt := 4) hx hb dX1_honestOnes_38 (by decide) ?_
      refine K9 ls (trivial) ?_
      show lv_has ls 3 [(0, .ref (r_h ρ)), (1, .int (cntS (fun i => hasC σ i ∧ truC σ i) (n9 + 1))), (2, .int (nI (n9 + 1)))]
      rw [show cntS (fun i => hasC σ i ∧ truC σ i) (n9 + 1) = cntS (fun i => hasC σ i ∧ truC σ i) n9 from cnt_f (p := fun i => hasC σ i ∧ truC σ i) (b01_0.mp c_4)]
      exact lv_sub hl [1, 2, 0] rfl
    · refine lv_iinc (v := (cntS (fun i => hasC σ i ∧ truC σ i) n9) + 1) (lv' := [(1, .int ((cntS (fun i => hasC σ i ∧ truC σ i) n9) + 1)), (0, .ref (r_h ρ)), (2, .int (nI n9))]) hx hb dX1_honestOnes_32 hl (k := 1) rfl rfl (by decide) rfl (fun ls hl => ?_)
      refine lv_iinc (v := nI (n9 + 1)) (lv' := [(2, .int (nI (n9 + 1))), (1, .int ((cntS (fun i => hasC σ i ∧ truC σ i) n9) + 1)), (0, .ref (r_h ρ))]) hx hb dX1_honestOnes_35 hl (k := 2) rfl (nI_add _ 1) (by decide) rfl (fun ls hl => ?_)
      refine lv_goto (tgt := 4) hx hb dX1_honestOnes_38 (by decide) ?_
      refine K9 ls (trivial) ?_
      show lv_has ls 3 [(0, .ref (r_h ρ)), (1, .int (cntS (fun i => hasC σ i ∧ truC σ i) (n9 + 1))), (2, .int (nI (n9 + 1)))]
      rw [show cntS (fun i => hasC σ i ∧ truC σ i) (n9 + 1) = (cntS (fun i => hasC σ i ∧ truC σ i) n9) + 1 from cnt_t (p := fun i => hasC σ i ∧ truC σ i) (b01_n.mp c_4)]
      exact lv_sub hl [2, 1, 0] rfl
  · have hl : lv_has ls 3 [(0, .ref (r_h ρ)), (1, .int (cntS (fun i => hasC σ i ∧ truC σ i) (sK σ))), (2, .int (nI (sK σ)))] := hl
    refine lv_iload_n hx hb dX1_honestOnes_4 rfl (lv_at hl 2 rfl) ?_
    refine lv_aload_n hx hb dX1_honestOnes_5 rfl (lv_at hl 0 rfl) ?_
    refine va_get (D := D) (ci := 2) (v := .ref (r_q ρ)) (C := RX1) (T := TX1) (N := 4) hx hb hts in_X1_honestOnes_X1 hown hK (one_P hP.1) 0 rfl rfl 0 (by decide) (hts (.fieldLink RX1 10 "ShadowSociety" "roll" "Ljava/util/ArrayList;") (List.mem_of_getElem? (i := 1) (by decide +kernel))) (fun _ h9 => h9) rfl dX1_honestOnes_6 ?_
    refine vp_callSi (va_Run.run (va_runV (As := []) (rest := [.int (nI (sK σ))]) ⟨hx, hb, hml, hown, hts⟩ (c_Jx4a65c_size_8abf5 l D cs ρ hI hJ) (cwV 0 hts gX1_honestOnes_Jx4a65c_size_8abf5 rfl rfl rfl (by decide +kernel) ⟨Nat.le_of_ble_eq_true rfl, Nat.le_of_ble_eq_true rfl⟩) (rb_V hK hN hP.2.1 (va_recv hK (one_P hP.2.1.1) (ci := 0) (q0 := 0) rfl rfl)) rfl rfl hl.1 rfl (lv_room (Nat.le_of_ble_eq_true rfl)) dX1_honestOnes_9 ⟨Nat.le_of_ble_eq_true rfl, Nat.le_of_ble_eq_true rfl⟩)) (fun r_5 hr_5 => ?_)
    rw [hr_5]
    refine lv_icmp_ge (tgt := 41) hx hb dX1_honestOnes_12 (by decide) (fun _ => ?_) (fun c9 => absurd (nI_le (Nat.le_refl _) (by have := hI.1; omega)) c9)
    refine lv_iload_n hx hb dX1_honestOnes_41 rfl (lv_at hl 1 rfl) ?_
    exact W.iret (v := cntS (fun i => hasC σ i ∧ truC σ i) (sK σ)) hx hb hr (fun t ht hW => ⟨_, rfl, rfl, ht⟩) (fun q hq => absurd hq List.not_mem_nil) dX1_honestOnes_42
theorem in_X1_longest_X1 : ∀ w ∈ wsX10, w ∈ wsX1_longest := by decide +kernel
set_option maxHeartbeats 4000000 in
set_option maxRecDepth 100000 in
/-- the first of the greatest: a loop over the members -/
theorem c_X1_longest (l : Launch) (D : va_G) (cs : Cs) (ρ : Rf) {B : Nat} {σ : PS} (hI : InvS B σ) (hJ : InjA ρ (sK σ))  : Met l yX1_longest wsX1_longest ({ frames := 3, cells := 0, slots := 0, locals := 64 }) (va_Pc [.ref (r_h ρ)] (RBp D cs (Soc D cs ρ σ))) (vp_Si (fun r : Int32 => r = longS σ)) 0 0 (fun _ => False) := by
  refine Met.ofW (cc := cX1_longest) (maxL := 5) (ret := (some .int)) (by decide) rfl ?_
  intro p e s m args below meth c s₁ B0 hml hv
  obtain ⟨rfl, hP, hK, hN⟩ := hv
  have hx := B0.exec
  have hb := B0.bytes
  have hr := B0.returns
  have hts := atoms_spec (ws := wsX1_longest) B0.pre
  have hown : s.vm.findClass RX1 = some m.cls := findClass_of_methodNamed B0.named
  have hlocks := B0.notSynchronized
  have hl := lv_entry ([.ref (r_h ρ)]) (n := 5) (Nat.le_of_ble_eq_true rfl)
  rw [lg_entry_eq]
  generalize (lg_sl ([.ref (r_h ρ)]) ++ List.replicate (5 - (lg_sl ([.ref (r_h ρ)])).length) Slot.unset).toArray = ls at hl ⊢
  have hl : lv_has ls 5 [(0, .ref (r_h ρ))] := hl
  refine lv_iconst (v := (-1)) hx hb dX1_longest_0 (by decide) ?_
  refine lv_istore_n (lv' := [(1, .int (-1)), (0, .ref (r_h ρ))]) hx hb dX1_longest_1 rfl hl (by decide) rfl (fun ls hl => ?_)
  refine lv_iconst (v := 0) hx hb dX1_longest_2 (by decide) ?_
  refine lv_istore_n (lv' := [(2, .int 0), (1, .int (-1)), (0, .ref (r_h ρ))]) hx hb dX1_longest_3 rfl hl (by decide) rfl (fun ls hl => ?_)
  refine lv_iconst (v := 0) hx hb dX1_longest_4 (by decide) ?_
  refine lv_istore_n (lv' := [(3, .int 0), (2, .int 0), (1, .int (-1)), (0, .ref (r_h ρ))]) hx hb dX1_longest_5 rfl hl (by decide) rfl (fun ls hl => ?_)
  refine lv_for (sK σ) (fun ls => F0 m 6 ls []) (fun n9 => [(0, .ref (r_h ρ)), (1, .int (amxS (fun o => shadS σ o (dayOf σ)) n9)), (2, .int (amxV (fun o => shadS σ o (dayOf σ)) n9)), (3, .int (nI n9))]) (fun _ => True) (show lv_has ls 5 [(0, .ref (r_h ρ)), (1, .int (amxS (fun o => shadS σ o (dayOf σ)) 0)), (2, .int (amxV (fun o => shadS σ o (dayOf σ)) 0)), (3, .int (nI 0))] from lv_sub hl [3, 2, 1, 0] rfl) (trivial) (fun n9 ls hn9 hj9 hl K9 => ?_) (fun ls hj9 hl => ?_)
  · have hl : lv_has ls 5 [(0, .ref (r_h ρ)), (1, .int (amxS (fun o => shadS σ o (dayOf σ)) n9)), (2, .int (amxV (fun o => shadS σ o (dayOf σ)) n9)), (3, .int (nI n9))] := hl
    refine lv_iload_n hx hb dX1_longest_6 rfl (lv_at hl 3 rfl) ?_
    refine lv_aload_n hx hb dX1_longest_7 rfl (lv_at hl 0 rfl) ?_
    refine va_get (D := D) (ci := 2) (v := .ref (r_q ρ)) (C := RX1) (T := TX1) (N := 4) hx hb hts in_X1_longest_X1 hown hK (one_P hP.1) 0 rfl rfl 0 (by decide) (hts (.fieldLink RX1 10 "ShadowSociety" "roll" "Ljava/util/ArrayList;") (List.mem_of_getElem? (i := 1) (by decide +kernel))) (fun _ h9 => h9) rfl dX1_longest_8 ?_
    refine vp_callSi (va_Run.run (va_runV (As := []) (rest := [.int (nI n9)]) ⟨hx, hb, hml, hown, hts⟩ (c_Jx4a65c_size_8abf5 l D cs ρ hI hJ) (cwV 0 hts gX1_longest_Jx4a65c_size_8abf5 rfl rfl rfl (by decide +kernel) ⟨Nat.le_of_ble_eq_true rfl, Nat.le_of_ble_eq_true rfl⟩) (rb_V hK hN hP.2.1 (va_recv hK (one_P hP.2.1.1) (ci := 0) (q0 := 0) rfl rfl)) rfl rfl hl.1 rfl (lv_room (Nat.le_of_ble_eq_true rfl)) dX1_longest_11 ⟨Nat.le_of_ble_eq_true rfl, Nat.le_of_ble_eq_true rfl⟩)) (fun r_1 hr_1 => ?_)
    rw [hr_1]
    refine lv_icmp_ge (tgt := 59) hx hb dX1_longest_14 (by decide) (fun c9 => absurd c9 (nI_ge hn9 (by have := hI.1; omega))) (fun _ => ?_)
    refine lv_aload_n hx hb dX1_longest_17 rfl (lv_at hl 0 rfl) ?_
    refine va_get (D := D) (ci := 2) (v := .ref (r_q ρ)) (C := RX1) (T := TX1) (N := 4) hx hb hts in_X1_longest_X1 hown hK (one_P hP.1) 0 rfl rfl 0 (by decide) (hts (.fieldLink RX1 10 "ShadowSociety" "roll" "Ljava/util/ArrayList;") (List.mem_of_getElem? (i := 1) (by decide +kernel))) (fun _ h9 => h9) rfl dX1_longest_18 ?_
    refine lv_iload_n hx hb dX1_longest_21 rfl (lv_at hl 3 rfl) ?_
    refine va_csq (va_Run.run (va_runV (As := [.int (nI n9)]) (rest := []) ⟨hx, hb, hml, hown, hts⟩ (c_Jx4a65c_get_915e3 l D cs ρ hI hJ n9 hn9) (cwV 1 hts gX1_longest_Jx4a65c_get_915e3 rfl rfl rfl (by decide +kernel) ⟨Nat.le_of_ble_eq_true rfl, Nat.le_of_ble_eq_true rfl⟩) (rb_V hK hN hP.2.1 (va_recv hK (one_P hP.2.1.1) (ci := 0) (q0 := 0) rfl rfl)) rfl rfl hl.1 rfl (lv_room (Nat.le_of_ble_eq_true rfl)) dX1_longest_22 ⟨Nat.le_of_ble_eq_true rfl, Nat.le_of_ble_eq_true rfl⟩)) (fun r_2 hr_2 => ?_)
    rw [hr_2]
    refine va_castS (nm := RX0) hx hb hown (hts (.classLink RX1 44 RX0) (List.mem_of_getElem? (i := 2) (by decide +kernel))) (hK.1 1 _ rfl).2 (va_recv hK (one_P (hP.2.2 n9 hn9)) (ci := 1) (q0 := 0) rfl rfl) dX1_longest_25 ?_
    refine lv_aload_n hx hb dX1_longest_28 rfl (lv_at hl 0 rfl) ?_
    refine vp_callSi (va_Run.run (va_runV (As := []) (rest := [.ref (r_a ρ n9)]) ⟨hx, hb, hml, hown, hts⟩ (c_X1_hourOfDay l D cs ρ hI hJ) (cwV 0 hts gX1_longest_X1_hourOfDay rfl rfl rfl (by decide +kernel) ⟨Nat.le_of_ble_eq_true rfl, Nat.le_of_ble_eq_true rfl⟩) (rb_V hK hN hP (va_recv hK (one_P hP.1) (ci := 2) (q0 := 0) rfl rfl)) rfl rfl hl.1 rfl (lv_room (Nat.le_of_ble_eq_true rfl)) dX1_longest_29 ⟨Nat.le_of_ble_eq_true rfl, Nat.le_of_ble_eq_true rfl⟩)) (fun r_3 hr_3 => ?_)
    rw [hr_3]
    refine vp_callSi (va_Run.run (va_runVN (As := [.int (dayOf σ)]) (rest := []) ⟨hx, hb, hml, hown, hts⟩ (c_X0_shadowAt l D cs ρ hI hJ n9 hn9 (dayOf σ)) ⟨va_cnB 1 hts gX1_longest_X0_shadowAt_n113 rfl rfl rfl (hN (.methodLinkNest "ShadowSociety" 113 ⟨"ShadowSociety$Member", "shadowAt", "(I)I"⟩ "ShadowSociety") (by decide +kernel)) (hts (.initialized RX0) (List.mem_of_getElem? (i := 33) (by decide +kernel))) (by decide +kernel) ⟨Nat.le_of_ble_eq_true rfl, Nat.le_of_ble_eq_true rfl⟩, hts (.instanceMethod yX0_shadowAt) (List.mem_of_getElem? (i := 32) (by decide +kernel)), hts (.selects RX0 yX0_shadowAt yX0_shadowAt) (List.mem_of_getElem? (i := 34) (by decide +kernel))⟩ (rb_V hK hN hP.2.2 (va_recv hK (one_P (hP.2.2 n9 hn9)) (ci := 1) (q0 := 0) rfl rfl)) rfl rfl hl.1 rfl (lv_room (Nat.le_of_ble_eq_true rfl)) dX1_longest_32 ⟨Nat.le_of_ble_eq_true rfl, Nat.le_of_ble_eq_true rfl⟩)) (fun r_4 hr_4 => ?_)
    rw [hr_4]
    refine lv_istore (lv' := [(4, .int (shadS σ n9 (dayOf σ))), (0, .ref (r_h ρ)), (1, .int (amxS (fun o => shadS σ o (dayOf σ)) n9)), (2, .int (amxV (fun o => shadS σ o (dayOf σ)) n9)), (3, .int (nI n9))]) hx hb dX1_longest_35 hl (by decide) rfl (fun ls hl => ?_)
    refine lv_iload_n hx hb dX1_longest_37 rfl (lv_at hl 2 rfl) ?_
    refine lv_iconst (v := (-1)) hx hb dX1_longest_38 (by decide) ?_
    refine lv_icmp_eq (tgt := 48) hx hb dX1_longest_39 (by decide) (fun c_5 => ?_) (fun c_5 => ?_)
    · refine lv_iload_n hx hb dX1_longest_48 rfl (lv_at hl 4 rfl) ?_
      refine lv_istore_n (lv' := [(1, .int (nI n9)), (4, .int (shadS σ n9 (dayOf σ))), (0, .ref (r_h ρ)), (2, .int (amxV (fun o => shadS σ o (dayOf σ)) n9)), (3, .int (nI n9))]) hx hb dX1_longest_49 rfl hl (by decide) rfl (fun ls hl => ?_)
      refine lv_iload hx hb dX1_longest_50 (lv_at hl 1 rfl) ?_
      refine lv_istore_n (lv' := [(2, .int (shadS σ n9 (dayOf σ))), (1, .int (nI n9)), (4, .int (shadS σ n9 (dayOf σ))), (0, .ref (r_h ρ)), (3, .int (nI n9))]) hx hb dX1_longest_52 rfl hl (by decide) rfl (fun ls hl => ?_)
      refine lv_iinc (v := nI (n9 + 1)) (lv' := [(3, .int (nI (n9 + 1))), (2, .int (shadS σ n9 (dayOf σ))), (1, .int (nI n9)), (4, .int (shadS σ n9 (dayOf σ))), (0, .ref (r_h ρ))]) hx hb dX1_longest_53 hl (k := 4) rfl (nI_add _ 1) (by decide) rfl (fun ls hl => ?_)
      refine lv_goto (tgt := 6) hx hb dX1_longest_56 (by decide) ?_
      refine K9 ls (trivial) ?_
      show lv_has ls 5 [(0, .ref (r_h ρ)), (1, .int (amxS (fun o => shadS σ o (dayOf σ)) (n9 + 1))), (2, .int (amxV (fun o => shadS σ o (dayOf σ)) (n9 + 1))), (3, .int (nI (n9 + 1)))]
      rw [show amxS (fun o => shadS σ o (dayOf σ)) (n9 + 1) = nI n9 from (amp_n1 (p := fun o => True) (f := fun o => shadS σ o (dayOf σ)) (by have := hI.1; omega) True.intro c_5).1]
      rw [show amxV (fun o => shadS σ o (dayOf σ)) (n9 + 1) = shadS σ n9 (dayOf σ) from (amp_n1 (p := fun o => True) (f := fun o => shadS σ o (dayOf σ)) (by have := hI.1; omega) True.intro c_5).2]
      exact lv_sub hl [4, 2, 1, 0] rfl
    · refine lv_iload hx hb dX1_longest_42 (lv_at hl 0 rfl) ?_
      refine lv_iload_n hx hb dX1_longest_44 rfl (lv_at hl 3 rfl) ?_
      refine lv_icmp_le (tgt := 53) hx hb dX1_longest_45 (by decide) (fun c_6 => ?_) (fun c_6 => ?_)
      · refine lv_iinc (v := nI (n9 + 1)) (lv' := [(3, .int (nI (n9 + 1))), (4, .int (shadS σ n9 (dayOf σ))), (0, .ref (r_h ρ)), (1, .int (amxS (fun o => shadS σ o (dayOf σ)) n9)), (2, .int (amxV (fun o => shadS σ o (dayOf σ)) n9))]) hx hb dX1_longest_53 hl (k := 4) rfl (nI_add _ 1) (by decide) rfl (fun ls hl => ?_)
        refine lv_goto (tgt := 6) hx hb dX1_longest_56 (by decide) ?_
        refine K9 ls (trivial) ?_
        show lv_has ls 5 [(0, .ref (r_h ρ)), (1, .int (amxS (fun o => shadS σ o (dayOf σ)) (n9 + 1))), (2, .int (amxV (fun o => shadS σ o (dayOf σ)) (n9 + 1))), (3, .int (nI (n9 + 1)))]
        rw [show amxS (fun o => shadS σ o (dayOf σ)) (n9 + 1) = amxS (fun o => shadS σ o (dayOf σ)) n9 from (amp_k (p := fun o => True) (f := fun o => shadS σ o (dayOf σ)) True.intro c_5 c_6).1]
        rw [show amxV (fun o => shadS σ o (dayOf σ)) (n9 + 1) = amxV (fun o => shadS σ o (dayOf σ)) n9 from (amp_k (p := fun o => True) (f := fun o => shadS σ o (dayOf σ)) True.intro c_5 c_6).2]
        exact lv_sub hl [2, 3, 4, 0] rfl
      · refine lv_iload_n hx hb dX1_longest_48 rfl (lv_at hl 4 rfl) ?_
        refine lv_istore_n (lv' := [(1, .int (nI n9)), (4, .int (shadS σ n9 (dayOf σ))), (0, .ref (r_h ρ)), (2, .int (amxV (fun o => shadS σ o (dayOf σ)) n9)), (3, .int (nI n9))]) hx hb dX1_longest_49 rfl hl (by decide) rfl (fun ls hl => ?_)
        refine lv_iload hx hb dX1_longest_50 (lv_at hl 1 rfl) ?_
        refine lv_istore_n (lv' := [(2, .int (shadS σ n9 (dayOf σ))), (1, .int (nI n9)), (4, .int (shadS σ n9 (dayOf σ))), (0, .ref (r_h ρ)), (3, .int (nI n9))]) hx hb dX1_longest_52 rfl hl (by decide) rfl (fun ls hl => ?_)
        refine lv_iinc (v := nI (n9 + 1)) (lv' := [(3, .int (nI (n9 + 1))), (2, .int (shadS σ n9 (dayOf σ))), (1, .int (nI n9)), (4, .int (shadS σ n9 (dayOf σ))), (0, .ref (r_h ρ))]) hx hb dX1_longest_53 hl (k := 4) rfl (nI_add _ 1) (by decide) rfl (fun ls hl => ?_)
        refine lv_goto (tgt := 6) hx hb dX1_longest_56 (by decide) ?_
        refine K9 ls (trivial) ?_
        show lv_has ls 5 [(0, .ref (r_h ρ)), (1, .int (amxS (fun o => shadS σ o (dayOf σ)) (n9 + 1))), (2, .int (amxV (fun o => shadS σ o (dayOf σ)) (n9 + 1))), (3, .int (nI (n9 + 1)))]
        rw [show amxS (fun o => shadS σ o (dayOf σ)) (n9 + 1) = nI n9 from (amp_n2 (p := fun o => True) (f := fun o => shadS σ o (dayOf σ)) (by have := hI.1; omega) True.intro c_5 c_6).1]
        rw [show amxV (fun o => shadS σ o (dayOf σ)) (n9 + 1) = shadS σ n9 (dayOf σ) from (amp_n2 (p := fun o => True) (f := fun o => shadS σ o (dayOf σ)) (by have := hI.1; omega) True.intro c_5 c_6).2]
        exact lv_sub hl [4, 2, 1, 0] rfl
  · have hl : lv_has ls 5 [(0, .ref (r_h ρ)), (1, .int (amxS (fun o => shadS σ o (dayOf σ)) (sK σ))), (2, .int (amxV (fun o => shadS σ o (dayOf σ)) (sK σ))), (3, .int (nI (sK σ)))] := hl
    refine lv_iload_n hx hb dX1_longest_6 rfl (lv_at hl 3 rfl) ?_
    refine lv_aload_n hx hb dX1_longest_7 rfl (lv_at hl 0 rfl) ?_
    refine va_get (D := D) (ci := 2) (v := .ref (r_q ρ)) (C := RX1) (T := TX1) (N := 4) hx hb hts in_X1_longest_X1 hown hK (one_P hP.1) 0 rfl rfl 0 (by decide) (hts (.fieldLink RX1 10 "ShadowSociety" "roll" "Ljava/util/ArrayList;") (List.mem_of_getElem? (i := 1) (by decide +kernel))) (fun _ h9 => h9) rfl dX1_longest_8 ?_
    refine vp_callSi (va_Run.run (va_runV (As := []) (rest := [.int (nI (sK σ))]) ⟨hx, hb, hml, hown, hts⟩ (c_Jx4a65c_size_8abf5 l D cs ρ hI hJ) (cwV 0 hts gX1_longest_Jx4a65c_size_8abf5 rfl rfl rfl (by decide +kernel) ⟨Nat.le_of_ble_eq_true rfl, Nat.le_of_ble_eq_true rfl⟩) (rb_V hK hN hP.2.1 (va_recv hK (one_P hP.2.1.1) (ci := 0) (q0 := 0) rfl rfl)) rfl rfl hl.1 rfl (lv_room (Nat.le_of_ble_eq_true rfl)) dX1_longest_11 ⟨Nat.le_of_ble_eq_true rfl, Nat.le_of_ble_eq_true rfl⟩)) (fun r_7 hr_7 => ?_)
    rw [hr_7]
    refine lv_icmp_ge (tgt := 59) hx hb dX1_longest_14 (by decide) (fun _ => ?_) (fun c9 => absurd (nI_le (Nat.le_refl _) (by have := hI.1; omega)) c9)
    refine lv_iload_n hx hb dX1_longest_59 rfl (lv_at hl 1 rfl) ?_
    exact W.iret (v := amxS (fun o => shadS σ o (dayOf σ)) (sK σ)) hx hb hr (fun t ht hW => ⟨_, rfl, rfl, ht⟩) (fun q hq => absurd hq List.not_mem_nil) dX1_longest_60
theorem in_X1_richestThen_X0 : ∀ w ∈ wsX00, w ∈ wsX1_richestThen := by decide +kernel
theorem in_X1_richestThen_X1 : ∀ w ∈ wsX10, w ∈ wsX1_richestThen := by decide +kernel
set_option maxHeartbeats 4000000 in
set_option maxRecDepth 100000 in
/-- the first of the greatest: a loop over the members -/
theorem c_X1_richestThen (l : Launch) (D : va_G) (cs : Cs) (ρ : Rf) {B : Nat} {σ : PS} (hI : InvS B σ) (hJ : InjA ρ (sK σ))  : Met l yX1_richestThen wsX1_richestThen ({ frames := 6, cells := 0, slots := 0, locals := 116 }) (va_Pc [.ref (r_h ρ)] (RBp D cs (Soc D cs ρ σ))) (vp_Si (fun r : Int32 => r = richS σ)) 0 0 (fun _ => False) := by
  refine Met.ofW (cc := cX1_richestThen) (maxL := 6) (ret := (some .int)) (by decide) rfl ?_
  intro p e s m args below meth c s₁ B0 hml hv
  obtain ⟨rfl, hP, hK, hN⟩ := hv
  have hx := B0.exec
  have hb := B0.bytes
  have hr := B0.returns
  have hts := atoms_spec (ws := wsX1_richestThen) B0.pre
  have hown : s.vm.findClass RX1 = some m.cls := findClass_of_methodNamed B0.named
  have hlocks := B0.notSynchronized
  have hl := lv_entry ([.ref (r_h ρ)]) (n := 6) (Nat.le_of_ble_eq_true rfl)
  rw [lg_entry_eq]
  generalize (lg_sl ([.ref (r_h ρ)]) ++ List.replicate (6 - (lg_sl ([.ref (r_h ρ)])).length) Slot.unset).toArray = ls at hl ⊢
  have hl : lv_has ls 6 [(0, .ref (r_h ρ))] := hl
  refine lv_iconst (v := (-1)) hx hb dX1_richestThen_0 (by decide) ?_
  refine lv_istore_n (lv' := [(1, .int (-1)), (0, .ref (r_h ρ))]) hx hb dX1_richestThen_1 rfl hl (by decide) rfl (fun ls hl => ?_)
  refine lv_iconst (v := 0) hx hb dX1_richestThen_2 (by decide) ?_
  refine lv_istore_n (lv' := [(2, .int 0), (1, .int (-1)), (0, .ref (r_h ρ))]) hx hb dX1_richestThen_3 rfl hl (by decide) rfl (fun ls hl => ?_)
  refine lv_iconst (v := 0) hx hb dX1_richestThen_4 (by decide) ?_
  refine lv_istore_n (lv' := [(3, .int 0), (2, .int 0), (1, .int (-1)), (0, .ref (r_h ρ))]) hx hb dX1_richestThen_5 rfl hl (by decide) rfl (fun ls hl => ?_)
  refine lv_for (sK σ) (fun ls => F0 m 6 ls []) (fun n9 => [(0, .ref (r_h ρ)), (1, .int (amxS (fun o => sPu σ o + gainS σ o) n9)), (2, .int (amxV (fun o => sPu σ o + gainS σ o) n9)), (3, .int (nI n9))]) (fun _ => True) (show lv_has ls 6 [(0, .ref (r_h ρ)), (1, .int (amxS (fun o => sPu σ o + gainS σ o) 0)), (2, .int (amxV (fun o => sPu σ o + gainS σ o) 0)), (3, .int (nI 0))] from lv_sub hl [3, 2, 1, 0] rfl) (trivial) (fun n9 ls hn9 hj9 hl K9 => ?_) (fun ls hj9 hl => ?_)
  · have hl : lv_has ls 6 [(0, .ref (r_h ρ)), (1, .int (amxS (fun o => sPu σ o + gainS σ o) n9)), (2, .int (amxV (fun o => sPu σ o + gainS σ o) n9)), (3, .int (nI n9))] := hl
    refine lv_iload_n hx hb dX1_richestThen_6 rfl (lv_at hl 3 rfl) ?_
    refine lv_aload_n hx hb dX1_richestThen_7 rfl (lv_at hl 0 rfl) ?_
    refine va_get (D := D) (ci := 2) (v := .ref (r_q ρ)) (C := RX1) (T := TX1) (N := 4) hx hb hts in_X1_richestThen_X1 hown hK (one_P hP.1) 0 rfl rfl 0 (by decide) (hts (.fieldLink RX1 10 "ShadowSociety" "roll" "Ljava/util/ArrayList;") (List.mem_of_getElem? (i := 1) (by decide +kernel))) (fun _ h9 => h9) rfl dX1_richestThen_8 ?_
    refine vp_callSi (va_Run.run (va_runV (As := []) (rest := [.int (nI n9)]) ⟨hx, hb, hml, hown, hts⟩ (c_Jx4a65c_size_8abf5 l D cs ρ hI hJ) (cwV 0 hts gX1_richestThen_Jx4a65c_size_8abf5 rfl rfl rfl (by decide +kernel) ⟨Nat.le_of_ble_eq_true rfl, Nat.le_of_ble_eq_true rfl⟩) (rb_V hK hN hP.2.1 (va_recv hK (one_P hP.2.1.1) (ci := 0) (q0 := 0) rfl rfl)) rfl rfl hl.1 rfl (lv_room (Nat.le_of_ble_eq_true rfl)) dX1_richestThen_11 ⟨Nat.le_of_ble_eq_true rfl, Nat.le_of_ble_eq_true rfl⟩)) (fun r_1 hr_1 => ?_)
    rw [hr_1]
    refine lv_icmp_ge (tgt := 65) hx hb dX1_richestThen_14 (by decide) (fun c9 => absurd c9 (nI_ge hn9 (by have := hI.1; omega))) (fun _ => ?_)
    refine lv_aload_n hx hb dX1_richestThen_17 rfl (lv_at hl 0 rfl) ?_
    refine va_get (D := D) (ci := 2) (v := .ref (r_q ρ)) (C := RX1) (T := TX1) (N := 4) hx hb hts in_X1_richestThen_X1 hown hK (one_P hP.1) 0 rfl rfl 0 (by decide) (hts (.fieldLink RX1 10 "ShadowSociety" "roll" "Ljava/util/ArrayList;") (List.mem_of_getElem? (i := 1) (by decide +kernel))) (fun _ h9 => h9) rfl dX1_richestThen_18 ?_
    refine lv_iload_n hx hb dX1_richestThen_21 rfl (lv_at hl 3 rfl) ?_
    refine va_csq (va_Run.run (va_runV (As := [.int (nI n9)]) (rest := []) ⟨hx, hb, hml, hown, hts⟩ (c_Jx4a65c_get_915e3 l D cs ρ hI hJ n9 hn9) (cwV 1 hts gX1_richestThen_Jx4a65c_get_915e3 rfl rfl rfl (by decide +kernel) ⟨Nat.le_of_ble_eq_true rfl, Nat.le_of_ble_eq_true rfl⟩) (rb_V hK hN hP.2.1 (va_recv hK (one_P hP.2.1.1) (ci := 0) (q0 := 0) rfl rfl)) rfl rfl hl.1 rfl (lv_room (Nat.le_of_ble_eq_true rfl)) dX1_richestThen_22 ⟨Nat.le_of_ble_eq_true rfl, Nat.le_of_ble_eq_true rfl⟩)) (fun r_2 hr_2 => ?_)
    rw [hr_2]
    refine va_castS (nm := RX0) hx hb hown (hts (.classLink RX1 44 RX0) (List.mem_of_getElem? (i := 2) (by decide +kernel))) (hK.1 1 _ rfl).2 (va_recv hK (one_P (hP.2.2 n9 hn9)) (ci := 1) (q0 := 0) rfl rfl) dX1_richestThen_25 ?_
    refine lv_astore (lv' := [(4, .ref (r_a ρ n9)), (0, .ref (r_h ρ)), (1, .int (amxS (fun o => sPu σ o + gainS σ o) n9)), (2, .int (amxV (fun o => sPu σ o + gainS σ o) n9)), (3, .int (nI n9))]) hx hb dX1_richestThen_28 hl (by decide) rfl (fun ls hl => ?_)
    refine lv_aload hx hb dX1_richestThen_30 (lv_at hl 0 rfl) ?_
    refine va_getN (D := D) (ci := 1) (v := .int (sPu σ n9)) (C := RX0) (T := TX0) (N := 9) hx hb hts in_X1_richestThen_X0 hown hK (one_P (hP.2.2 n9 hn9)) 0 rfl rfl 3 (by decide) (Nst.use hN (w := .fieldLinkNest "ShadowSociety" 70 "ShadowSociety$Member" "purse" "I" "ShadowSociety") (by decide +kernel)) (fun _ h9 => h9) rfl dX1_richestThen_32 ?_
    refine lv_aload hx hb dX1_richestThen_35 (lv_at hl 0 rfl) ?_
    refine vp_callSi (va_Run.run (va_runVN (As := []) (rest := [.int (sPu σ n9)]) ⟨hx, hb, hml, hown, hts⟩ (c_X0_gainAtAudit l D cs ρ hI hJ n9 hn9) ⟨va_cnB 0 hts gX1_richestThen_X0_gainAtAudit_n151 rfl rfl rfl (hN (.methodLinkNest "ShadowSociety" 151 ⟨"ShadowSociety$Member", "gainAtAudit", "()I"⟩ "ShadowSociety") (by decide +kernel)) (hts (.initialized RX0) (List.mem_of_getElem? (i := 27) (by decide +kernel))) (by decide +kernel) ⟨Nat.le_of_ble_eq_true rfl, Nat.le_of_ble_eq_true rfl⟩, hts (.instanceMethod yX0_gainAtAudit) (List.mem_of_getElem? (i := 26) (by decide +kernel)), hts (.selects RX0 yX0_gainAtAudit yX0_gainAtAudit) (List.mem_of_getElem? (i := 28) (by decide +kernel))⟩ (rb_V hK hN hP.2.2 (va_recv hK (one_P (hP.2.2 n9 hn9)) (ci := 1) (q0 := 0) rfl rfl)) rfl rfl hl.1 rfl (lv_room (Nat.le_of_ble_eq_true rfl)) dX1_richestThen_37 ⟨Nat.le_of_ble_eq_true rfl, Nat.le_of_ble_eq_true rfl⟩)) (fun r_3 hr_3 => ?_)
    rw [hr_3]
    refine lv_iadd hx hb dX1_richestThen_40 ?_
    refine lv_istore (lv' := [(5, .int ((sPu σ n9) + (gainS σ n9))), (4, .ref (r_a ρ n9)), (0, .ref (r_h ρ)), (1, .int (amxS (fun o => sPu σ o + gainS σ o) n9)), (2, .int (amxV (fun o => sPu σ o + gainS σ o) n9)), (3, .int (nI n9))]) hx hb dX1_richestThen_41 hl (by decide) rfl (fun ls hl => ?_)
    refine lv_iload_n hx hb dX1_richestThen_43 rfl (lv_at hl 3 rfl) ?_
    refine lv_iconst (v := (-1)) hx hb dX1_richestThen_44 (by decide) ?_
    refine lv_icmp_eq (tgt := 54) hx hb dX1_richestThen_45 (by decide) (fun c_4 => ?_) (fun c_4 => ?_)
    · refine lv_iload_n hx hb dX1_richestThen_54 rfl (lv_at hl 5 rfl) ?_
      refine lv_istore_n (lv' := [(1, .int (nI n9)), (5, .int ((sPu σ n9) + (gainS σ n9))), (4, .ref (r_a ρ n9)), (0, .ref (r_h ρ)), (2, .int (amxV (fun o => sPu σ o + gainS σ o) n9)), (3, .int (nI n9))]) hx hb dX1_richestThen_55 rfl hl (by decide) rfl (fun ls hl => ?_)
      refine lv_iload hx hb dX1_richestThen_56 (lv_at hl 1 rfl) ?_
      refine lv_istore_n (lv' := [(2, .int ((sPu σ n9) + (gainS σ n9))), (1, .int (nI n9)), (5, .int ((sPu σ n9) + (gainS σ n9))), (4, .ref (r_a ρ n9)), (0, .ref (r_h ρ)), (3, .int (nI n9))]) hx hb dX1_richestThen_58 rfl hl (by decide) rfl (fun ls hl => ?_)
      refine lv_iinc (v := nI (n9 + 1)) (lv' := [(3, .int (nI (n9 + 1))), (2, .int ((sPu σ n9) + (gainS σ n9))), (1, .int (nI n9)), (5, .int ((sPu σ n9) + (gainS σ n9))), (4, .ref (r_a ρ n9)), (0, .ref (r_h ρ))]) hx hb dX1_richestThen_59 hl (k := 5) rfl (nI_add _ 1) (by decide) rfl (fun ls hl => ?_)
      refine lv_goto (tgt := 6) hx hb dX1_richestThen_62 (by decide) ?_
      refine K9 ls (trivial) ?_
      show lv_has ls 6 [(0, .ref (r_h ρ)), (1, .int (amxS (fun o => sPu σ o + gainS σ o) (n9 + 1))), (2, .int (amxV (fun o => sPu σ o + gainS σ o) (n9 + 1))), (3, .int (nI (n9 + 1)))]
      rw [show amxS (fun o => sPu σ o + gainS σ o) (n9 + 1) = nI n9 from (amp_n1 (p := fun o => True) (f := fun o => sPu σ o + gainS σ o) (by have := hI.1; omega) True.intro c_4).1]
      rw [show amxV (fun o => sPu σ o + gainS σ o) (n9 + 1) = (sPu σ n9) + (gainS σ n9) from (amp_n1 (p := fun o => True) (f := fun o => sPu σ o + gainS σ o) (by have := hI.1; omega) True.intro c_4).2]
      exact lv_sub hl [5, 2, 1, 0] rfl
    · refine lv_iload hx hb dX1_richestThen_48 (lv_at hl 0 rfl) ?_
      refine lv_iload_n hx hb dX1_richestThen_50 rfl (lv_at hl 4 rfl) ?_
      refine lv_icmp_le (tgt := 59) hx hb dX1_richestThen_51 (by decide) (fun c_5 => ?_) (fun c_5 => ?_)
      · refine lv_iinc (v := nI (n9 + 1)) (lv' := [(3, .int (nI (n9 + 1))), (5, .int ((sPu σ n9) + (gainS σ n9))), (4, .ref (r_a ρ n9)), (0, .ref (r_h ρ)), (1, .int (amxS (fun o => sPu σ o + gainS σ o) n9)), (2, .int (amxV (fun o => sPu σ o + gainS σ o) n9))]) hx hb dX1_richestThen_59 hl (k := 5) rfl (nI_add _ 1) (by decide) rfl (fun ls hl => ?_)
        refine lv_goto (tgt := 6) hx hb dX1_richestThen_62 (by decide) ?_
        refine K9 ls (trivial) ?_
        show lv_has ls 6 [(0, .ref (r_h ρ)), (1, .int (amxS (fun o => sPu σ o + gainS σ o) (n9 + 1))), (2, .int (amxV (fun o => sPu σ o + gainS σ o) (n9 + 1))), (3, .int (nI (n9 + 1)))]
        rw [show amxS (fun o => sPu σ o + gainS σ o) (n9 + 1) = amxS (fun o => sPu σ o + gainS σ o) n9 from (amp_k (p := fun o => True) (f := fun o => sPu σ o + gainS σ o) True.intro c_4 c_5).1]
        rw [show amxV (fun o => sPu σ o + gainS σ o) (n9 + 1) = amxV (fun o => sPu σ o + gainS σ o) n9 from (amp_k (p := fun o => True) (f := fun o => sPu σ o + gainS σ o) True.intro c_4 c_5).2]
        exact lv_sub hl [3, 4, 5, 0] rfl
      · refine lv_iload_n hx hb dX1_richestThen_54 rfl (lv_at hl 5 rfl) ?_
        refine lv_istore_n (lv' := [(1, .int (nI n9)), (5, .int ((sPu σ n9) + (gainS σ n9))), (4, .ref (r_a ρ n9)), (0, .ref (r_h ρ)), (2, .int (amxV (fun o => sPu σ o + gainS σ o) n9)), (3, .int (nI n9))]) hx hb dX1_richestThen_55 rfl hl (by decide) rfl (fun ls hl => ?_)
        refine lv_iload hx hb dX1_richestThen_56 (lv_at hl 1 rfl) ?_
        refine lv_istore_n (lv' := [(2, .int ((sPu σ n9) + (gainS σ n9))), (1, .int (nI n9)), (5, .int ((sPu σ n9) + (gainS σ n9))), (4, .ref (r_a ρ n9)), (0, .ref (r_h ρ)), (3, .int (nI n9))]) hx hb dX1_richestThen_58 rfl hl (by decide) rfl (fun ls hl => ?_)
        refine lv_iinc (v := nI (n9 + 1)) (lv' := [(3, .int (nI (n9 + 1))), (2, .int ((sPu σ n9) + (gainS σ n9))), (1, .int (nI n9)), (5, .int ((sPu σ n9) + (gainS σ n9))), (4, .ref (r_a ρ n9)), (0, .ref (r_h ρ))]) hx hb dX1_richestThen_59 hl (k := 5) rfl (nI_add _ 1) (by decide) rfl (fun ls hl => ?_)
        refine lv_goto (tgt := 6) hx hb dX1_richestThen_62 (by decide) ?_
        refine K9 ls (trivial) ?_
        show lv_has ls 6 [(0, .ref (r_h ρ)), (1, .int (amxS (fun o => sPu σ o + gainS σ o) (n9 + 1))), (2, .int (amxV (fun o => sPu σ o + gainS σ o) (n9 + 1))), (3, .int (nI (n9 + 1)))]
        rw [show amxS (fun o => sPu σ o + gainS σ o) (n9 + 1) = nI n9 from (amp_n2 (p := fun o => True) (f := fun o => sPu σ o + gainS σ o) (by have := hI.1; omega) True.intro c_4 c_5).1]
        rw [show amxV (fun o => sPu σ o + gainS σ o) (n9 + 1) = (sPu σ n9) + (gainS σ n9) from (amp_n2 (p := fun o => True) (f := fun o => sPu σ o + gainS σ o) (by have := hI.1; omega) True.intro c_4 c_5).2]
        exact lv_sub hl [5, 2, 1, 0] rfl
  · have hl : lv_has ls 6 [(0, .ref (r_h ρ)), (1, .int (amxS (fun o => sPu σ o + gainS σ o) (sK σ))), (2, .int (amxV (fun o => sPu σ o + gainS σ o) (sK σ))), (3, .int (nI (sK σ)))] := hl
    refine lv_iload_n hx hb dX1_richestThen_6 rfl (lv_at hl 3 rfl) ?_
    refine lv_aload_n hx hb dX1_richestThen_7 rfl (lv_at hl 0 rfl) ?_
    refine va_get (D := D) (ci := 2) (v := .ref (r_q ρ)) (C := RX1) (T := TX1) (N := 4) hx hb hts in_X1_richestThen_X1 hown hK (one_P hP.1) 0 rfl rfl 0 (by decide) (hts (.fieldLink RX1 10 "ShadowSociety" "roll" "Ljava/util/ArrayList;") (List.mem_of_getElem? (i := 1) (by decide +kernel))) (fun _ h9 => h9) rfl dX1_richestThen_8 ?_
    refine vp_callSi (va_Run.run (va_runV (As := []) (rest := [.int (nI (sK σ))]) ⟨hx, hb, hml, hown, hts⟩ (c_Jx4a65c_size_8abf5 l D cs ρ hI hJ) (cwV 0 hts gX1_richestThen_Jx4a65c_size_8abf5 rfl rfl rfl (by decide +kernel) ⟨Nat.le_of_ble_eq_true rfl, Nat.le_of_ble_eq_true rfl⟩) (rb_V hK hN hP.2.1 (va_recv hK (one_P hP.2.1.1) (ci := 0) (q0 := 0) rfl rfl)) rfl rfl hl.1 rfl (lv_room (Nat.le_of_ble_eq_true rfl)) dX1_richestThen_11 ⟨Nat.le_of_ble_eq_true rfl, Nat.le_of_ble_eq_true rfl⟩)) (fun r_6 hr_6 => ?_)
    rw [hr_6]
    refine lv_icmp_ge (tgt := 65) hx hb dX1_richestThen_14 (by decide) (fun _ => ?_) (fun c9 => absurd (nI_le (Nat.le_refl _) (by have := hI.1; omega)) c9)
    refine lv_iload_n hx hb dX1_richestThen_65 rfl (lv_at hl 1 rfl) ?_
    exact W.iret (v := amxS (fun o => sPu σ o + gainS σ o) (sK σ)) hx hb hr (fun t ht hW => ⟨_, rfl, rfl, ht⟩) (fun q hq => absurd hq List.not_mem_nil) dX1_richestThen_66
set_option maxHeartbeats 4000000 in
set_option maxRecDepth 100000 in
theorem c_X1_hoursUntilAudit (l : Launch) (D : va_G) (cs : Cs) (ρ : Rf) {B : Nat} {σ : PS} (hI : InvS B σ) (hJ : InjA ρ (sK σ))  : Met l yX1_hoursUntilAudit wsX1_hoursUntilAudit ({ frames := 1, cells := 0, slots := 0, locals := 20 }) (va_Pc [.ref (r_h ρ)] (RBp D cs (Soc D cs ρ σ))) (vp_Si (fun r : Int32 => r = untS σ)) 0 0 (fun _ => False) := by
  refine Met.ofW (cc := cX1_hoursUntilAudit) (maxL := 2) (ret := (some .int)) (by decide) rfl ?_
  intro p e s m args below meth c s₁ B0 hml hv
  obtain ⟨rfl, hP, hK, hN⟩ := hv
  have hx := B0.exec
  have hb := B0.bytes
  have hr := B0.returns
  have hts := atoms_spec (ws := wsX1_hoursUntilAudit) B0.pre
  have hown : s.vm.findClass RX1 = some m.cls := findClass_of_methodNamed B0.named
  have hlocks := B0.notSynchronized
  have hl := lv_entry ([.ref (r_h ρ)]) (n := 2) (Nat.le_of_ble_eq_true rfl)
  rw [lg_entry_eq]
  generalize (lg_sl ([.ref (r_h ρ)]) ++ List.replicate (2 - (lg_sl ([.ref (r_h ρ)])).length) Slot.unset).toArray = ls at hl ⊢
  have hl : lv_has ls 2 [(0, .ref (r_h ρ))] := hl
  refine lv_aload_n hx hb dX1_hoursUntilAudit_0 rfl (lv_at hl 0 rfl) ?_
  refine vp_callSi (va_Run.run (va_runV (As := []) (rest := []) ⟨hx, hb, hml, hown, hts⟩ (c_X1_hourOfDay l D cs ρ hI hJ) (cwV 0 hts gX1_hoursUntilAudit_X1_hourOfDay rfl rfl rfl (by decide +kernel) ⟨Nat.le_of_ble_eq_true rfl, Nat.le_of_ble_eq_true rfl⟩) (rb_V hK hN hP (va_recv hK (one_P hP.1) (ci := 2) (q0 := 0) rfl rfl)) rfl rfl hl.1 rfl (lv_room (Nat.le_of_ble_eq_true rfl)) dX1_hoursUntilAudit_1 ⟨Nat.le_of_ble_eq_true rfl, Nat.le_of_ble_eq_true rfl⟩)) (fun r_1 hr_1 => ?_)
  rw [hr_1]
  refine lv_istore_n (lv' := [(1, .int (dayOf σ)), (0, .ref (r_h ρ))]) hx hb dX1_hoursUntilAudit_4 rfl hl (by decide) rfl (fun ls hl => ?_)
  refine lv_iload_n hx hb dX1_hoursUntilAudit_5 rfl (lv_at hl 0 rfl) ?_
  refine lv_bipush (v := 12) hx hb dX1_hoursUntilAudit_6 (by decide) ?_
  refine lv_icmp_ge (tgt := 18) hx hb dX1_hoursUntilAudit_8 (by decide) (fun c_2 => ?_) (fun c_2 => ?_)
  · refine lv_bipush (v := 36) hx hb dX1_hoursUntilAudit_18 (by decide) ?_
    refine lv_iload_n hx hb dX1_hoursUntilAudit_20 rfl (lv_at hl 0 rfl) ?_
    refine lv_isub hx hb dX1_hoursUntilAudit_21 ?_
    exact W.iret (v := 36 - (dayOf σ)) hx hb hr (fun t ht hW => ⟨_, rfl, (by unfold untS; rw [if_neg (fun q => absurd c_2 (by simpa using q))]), ht⟩) (fun q hq => absurd hq List.not_mem_nil) dX1_hoursUntilAudit_22
  · refine lv_bipush (v := 12) hx hb dX1_hoursUntilAudit_11 (by decide) ?_
    refine lv_iload_n hx hb dX1_hoursUntilAudit_13 rfl (lv_at hl 0 rfl) ?_
    refine lv_isub hx hb dX1_hoursUntilAudit_14 ?_
    refine lv_goto (tgt := 22) hx hb dX1_hoursUntilAudit_15 (by decide) ?_
    exact W.iret (v := 12 - (dayOf σ)) hx hb hr (fun t ht hW => ⟨_, rfl, (by unfold untS; rw [if_pos (by simpa using c_2)]), ht⟩) (fun q hq => absurd hq List.not_mem_nil) dX1_hoursUntilAudit_22
theorem in_X1_isHatLent_X0 : ∀ w ∈ wsX00, w ∈ wsX1_isHatLent := by decide +kernel
theorem in_X1_isHatLent_X1 : ∀ w ∈ wsX10, w ∈ wsX1_isHatLent := by decide +kernel
set_option maxHeartbeats 4000000 in
set_option maxRecDepth 100000 in
/-- is the hat lent: a loop that ends at the first who wears it -/
theorem c_X1_isHatLent (l : Launch) (D : va_G) (cs : Cs) (ρ : Rf) {B : Nat} {σ : PS} (hI : InvS B σ) (hJ : InjA ρ (sK σ)) (x : Nat) (hy : x < sK σ) : Met l yX1_isHatLent wsX1_isHatLent ({ frames := 3, cells := 0, slots := 0, locals := 64 }) (va_Pc [.ref (r_h ρ), .ref (r_a ρ x)] (RBp D cs (Soc D cs ρ σ))) (vp_Si (fun r : Int32 => r = b01 (lentS σ x))) 0 0 (fun _ => False) := by
  refine Met.ofW (cc := cX1_isHatLent) (maxL := 4) (ret := (some .boolean)) (by decide) rfl ?_
  intro p e s m args below meth c s₁ B0 hml hv
  obtain ⟨rfl, hP, hK, hN⟩ := hv
  have hx := B0.exec
  have hb := B0.bytes
  have hr := B0.returns
  have hts := atoms_spec (ws := wsX1_isHatLent) B0.pre
  have hown : s.vm.findClass RX1 = some m.cls := findClass_of_methodNamed B0.named
  have hlocks := B0.notSynchronized
  have hl := lv_entry ([.ref (r_h ρ), .ref (r_a ρ x)]) (n := 4) (Nat.le_of_ble_eq_true rfl)
  rw [lg_entry_eq]
  generalize (lg_sl ([.ref (r_h ρ), .ref (r_a ρ x)]) ++ List.replicate (4 - (lg_sl ([.ref (r_h ρ), .ref (r_a ρ x)])).length) Slot.unset).toArray = ls at hl ⊢
  have hl : lv_has ls 4 [(0, .ref (r_h ρ)), (1, .ref (r_a ρ x))] := hl
  refine lv_iconst (v := 0) hx hb dX1_isHatLent_0 (by decide) ?_
  refine lv_istore_n (lv' := [(2, .int 0), (0, .ref (r_h ρ)), (1, .ref (r_a ρ x))]) hx hb dX1_isHatLent_1 rfl hl (by decide) rfl (fun ls hl => ?_)
  refine lv_for (sK σ) (fun ls => F0 m 2 ls []) (fun n9 => [(0, .ref (r_h ρ)), (1, .ref (r_a ρ x)), (2, .int (nI n9))]) (fun n => ∀ j, j < n → ¬ (¬ j = x ∧ sWe σ j = nI x)) (show lv_has ls 4 [(0, .ref (r_h ρ)), (1, .ref (r_a ρ x)), (2, .int (nI 0))] from lv_sub hl [1, 2, 0] rfl) (lt_0) (fun n9 ls hn9 hj9 hl K9 => ?_) (fun ls hj9 hl => ?_)
  · have hl : lv_has ls 4 [(0, .ref (r_h ρ)), (1, .ref (r_a ρ x)), (2, .int (nI n9))] := hl
    refine lv_iload_n hx hb dX1_isHatLent_2 rfl (lv_at hl 2 rfl) ?_
    refine lv_aload_n hx hb dX1_isHatLent_3 rfl (lv_at hl 0 rfl) ?_
    refine va_get (D := D) (ci := 2) (v := .ref (r_q ρ)) (C := RX1) (T := TX1) (N := 4) hx hb hts in_X1_isHatLent_X1 hown hK (one_P hP.1) 0 rfl rfl 0 (by decide) (hts (.fieldLink RX1 10 "ShadowSociety" "roll" "Ljava/util/ArrayList;") (List.mem_of_getElem? (i := 1) (by decide +kernel))) (fun _ h9 => h9) rfl dX1_isHatLent_4 ?_
    refine vp_callSi (va_Run.run (va_runV (As := []) (rest := [.int (nI n9)]) ⟨hx, hb, hml, hown, hts⟩ (c_Jx4a65c_size_8abf5 l D cs ρ hI hJ) (cwV 0 hts gX1_isHatLent_Jx4a65c_size_8abf5 rfl rfl rfl (by decide +kernel) ⟨Nat.le_of_ble_eq_true rfl, Nat.le_of_ble_eq_true rfl⟩) (rb_V hK hN hP.2.1 (va_recv hK (one_P hP.2.1.1) (ci := 0) (q0 := 0) rfl rfl)) rfl rfl hl.1 rfl (lv_room (Nat.le_of_ble_eq_true rfl)) dX1_isHatLent_7 ⟨Nat.le_of_ble_eq_true rfl, Nat.le_of_ble_eq_true rfl⟩)) (fun r_1 hr_1 => ?_)
    rw [hr_1]
    refine lv_icmp_ge (tgt := 46) hx hb dX1_isHatLent_10 (by decide) (fun c9 => absurd c9 (nI_ge hn9 (by have := hI.1; omega))) (fun _ => ?_)
    refine lv_aload_n hx hb dX1_isHatLent_13 rfl (lv_at hl 0 rfl) ?_
    refine va_get (D := D) (ci := 2) (v := .ref (r_q ρ)) (C := RX1) (T := TX1) (N := 4) hx hb hts in_X1_isHatLent_X1 hown hK (one_P hP.1) 0 rfl rfl 0 (by decide) (hts (.fieldLink RX1 10 "ShadowSociety" "roll" "Ljava/util/ArrayList;") (List.mem_of_getElem? (i := 1) (by decide +kernel))) (fun _ h9 => h9) rfl dX1_isHatLent_14 ?_
    refine lv_iload_n hx hb dX1_isHatLent_17 rfl (lv_at hl 2 rfl) ?_
    refine va_csq (va_Run.run (va_runV (As := [.int (nI n9)]) (rest := []) ⟨hx, hb, hml, hown, hts⟩ (c_Jx4a65c_get_915e3 l D cs ρ hI hJ n9 hn9) (cwV 1 hts gX1_isHatLent_Jx4a65c_get_915e3 rfl rfl rfl (by decide +kernel) ⟨Nat.le_of_ble_eq_true rfl, Nat.le_of_ble_eq_true rfl⟩) (rb_V hK hN hP.2.1 (va_recv hK (one_P hP.2.1.1) (ci := 0) (q0 := 0) rfl rfl)) rfl rfl hl.1 rfl (lv_room (Nat.le_of_ble_eq_true rfl)) dX1_isHatLent_18 ⟨Nat.le_of_ble_eq_true rfl, Nat.le_of_ble_eq_true rfl⟩)) (fun r_2 hr_2 => ?_)
    rw [hr_2]
    refine va_castS (nm := RX0) hx hb hown (hts (.classLink RX1 44 RX0) (List.mem_of_getElem? (i := 2) (by decide +kernel))) (hK.1 1 _ rfl).2 (va_recv hK (one_P (hP.2.2 n9 hn9)) (ci := 1) (q0 := 0) rfl rfl) dX1_isHatLent_21 ?_
    refine lv_astore_n (lv' := [(3, .ref (r_a ρ n9)), (0, .ref (r_h ρ)), (1, .ref (r_a ρ x)), (2, .int (nI n9))]) hx hb dX1_isHatLent_24 rfl hl (by decide) rfl (fun ls hl => ?_)
    refine lv_aload_n hx hb dX1_isHatLent_25 rfl (lv_at hl 0 rfl) ?_
    refine lv_aload_n hx hb dX1_isHatLent_26 rfl (lv_at hl 2 rfl) ?_
    refine lv_acmp_eq (rx := some (r_a ρ n9)) (ry := some (r_a ρ x)) (tgt := 40) hx hb dX1_isHatLent_27 (by decide) (fun c_3 => ?_) (fun c_3 => ?_)
    · refine lv_iinc (v := nI (n9 + 1)) (lv' := [(2, .int (nI (n9 + 1))), (3, .ref (r_a ρ n9)), (0, .ref (r_h ρ)), (1, .ref (r_a ρ x))]) hx hb dX1_isHatLent_40 hl (k := 3) rfl (nI_add _ 1) (by decide) rfl (fun ls hl => ?_)
      refine lv_goto (tgt := 2) hx hb dX1_isHatLent_43 (by decide) ?_
      refine K9 ls (lt_s hj9 (fun q => q.1 ((mem_iff hJ hn9 hy).mp c_3))) ?_
      show lv_has ls 4 [(0, .ref (r_h ρ)), (1, .ref (r_a ρ x)), (2, .int (nI (n9 + 1)))]
      exact lv_sub hl [2, 3, 0] rfl
    · refine lv_aload_n hx hb dX1_isHatLent_30 rfl (lv_at hl 0 rfl) ?_
      rcases wear_cases hI hn9 with w_5 | ⟨j_4, hj_4, w_5⟩
      · refine va_getN (D := D) (ci := 1) (v := .null) (C := RX0) (T := TX0) (N := 9) hx hb hts in_X1_isHatLent_X0 hown hK (one_P (hP.2.2 n9 hn9)) 0 rfl rfl 5 (by decide) (Nst.use hN (w := .fieldLinkNest "ShadowSociety" 85 "ShadowSociety$Member" "hatOwner" "LShadowSociety$Member;" "ShadowSociety") (by decide +kernel)) (fun _ h9 => h9) (memF_n w_5) dX1_isHatLent_31 ?_
        refine lv_aload_n hx hb dX1_isHatLent_34 rfl (lv_at hl 2 rfl) ?_
        refine lv_acmp_ne (rx := none) (ry := some (r_a ρ x)) (tgt := 40) hx hb dX1_isHatLent_35 (by decide) (fun c_6 => ?_) (fun c_6 => ?_)
        · refine lv_iinc (v := nI (n9 + 1)) (lv' := [(2, .int (nI (n9 + 1))), (3, .ref (r_a ρ n9)), (0, .ref (r_h ρ)), (1, .ref (r_a ρ x))]) hx hb dX1_isHatLent_40 hl (k := 3) rfl (nI_add _ 1) (by decide) rfl (fun ls hl => ?_)
          refine lv_goto (tgt := 2) hx hb dX1_isHatLent_43 (by decide) ?_
          refine K9 ls (lt_s hj9 (fun q => own_no hI hy w_5 q.2)) ?_
          show lv_has ls 4 [(0, .ref (r_h ρ)), (1, .ref (r_a ρ x)), (2, .int (nI (n9 + 1)))]
          exact lv_sub hl [2, 3, 0] rfl
        · refine lv_iconst (v := 1) hx hb dX1_isHatLent_38 (by decide) ?_
          exact W.zret (ty := .boolean) (v := 1) hx hb hr rfl (fun t ht hW => ⟨_, rfl, (by simp at c_6), ht⟩) (fun q hq => absurd hq List.not_mem_nil) dX1_isHatLent_39
      · refine va_getN (D := D) (ci := 1) (v := .ref (r_a ρ j_4)) (C := RX0) (T := TX0) (N := 9) hx hb hts in_X1_isHatLent_X0 hown hK (one_P (hP.2.2 n9 hn9)) 0 rfl rfl 5 (by decide) (Nst.use hN (w := .fieldLinkNest "ShadowSociety" 85 "ShadowSociety$Member" "hatOwner" "LShadowSociety$Member;" "ShadowSociety") (by decide +kernel)) (fun _ h9 => h9) (memF_s hI hj_4 w_5) dX1_isHatLent_31 ?_
        refine lv_aload_n hx hb dX1_isHatLent_34 rfl (lv_at hl 2 rfl) ?_
        refine lv_acmp_ne (rx := some (r_a ρ j_4)) (ry := some (r_a ρ x)) (tgt := 40) hx hb dX1_isHatLent_35 (by decide) (fun c_7 => ?_) (fun c_7 => ?_)
        · refine lv_iinc (v := nI (n9 + 1)) (lv' := [(2, .int (nI (n9 + 1))), (3, .ref (r_a ρ n9)), (0, .ref (r_h ρ)), (1, .ref (r_a ρ x))]) hx hb dX1_isHatLent_40 hl (k := 3) rfl (nI_add _ 1) (by decide) rfl (fun ls hl => ?_)
          refine lv_goto (tgt := 2) hx hb dX1_isHatLent_43 (by decide) ?_
          refine K9 ls (lt_s hj9 (fun q => c_7 ((own_iff hI hJ hj_4 hy w_5).mpr q.2))) ?_
          show lv_has ls 4 [(0, .ref (r_h ρ)), (1, .ref (r_a ρ x)), (2, .int (nI (n9 + 1)))]
          exact lv_sub hl [2, 3, 0] rfl
        · refine lv_iconst (v := 1) hx hb dX1_isHatLent_38 (by decide) ?_
          exact W.zret (ty := .boolean) (v := 1) hx hb hr rfl (fun t ht hW => ⟨_, rfl, (b01_t ⟨n9, hn9, fun q => c_3 ((mem_iff hJ hn9 hy).mpr q), (own_iff hI hJ hj_4 hy w_5).mp c_7⟩).symm, ht⟩) (fun q hq => absurd hq List.not_mem_nil) dX1_isHatLent_39
  · have hl : lv_has ls 4 [(0, .ref (r_h ρ)), (1, .ref (r_a ρ x)), (2, .int (nI (sK σ)))] := hl
    refine lv_iload_n hx hb dX1_isHatLent_2 rfl (lv_at hl 2 rfl) ?_
    refine lv_aload_n hx hb dX1_isHatLent_3 rfl (lv_at hl 0 rfl) ?_
    refine va_get (D := D) (ci := 2) (v := .ref (r_q ρ)) (C := RX1) (T := TX1) (N := 4) hx hb hts in_X1_isHatLent_X1 hown hK (one_P hP.1) 0 rfl rfl 0 (by decide) (hts (.fieldLink RX1 10 "ShadowSociety" "roll" "Ljava/util/ArrayList;") (List.mem_of_getElem? (i := 1) (by decide +kernel))) (fun _ h9 => h9) rfl dX1_isHatLent_4 ?_
    refine vp_callSi (va_Run.run (va_runV (As := []) (rest := [.int (nI (sK σ))]) ⟨hx, hb, hml, hown, hts⟩ (c_Jx4a65c_size_8abf5 l D cs ρ hI hJ) (cwV 0 hts gX1_isHatLent_Jx4a65c_size_8abf5 rfl rfl rfl (by decide +kernel) ⟨Nat.le_of_ble_eq_true rfl, Nat.le_of_ble_eq_true rfl⟩) (rb_V hK hN hP.2.1 (va_recv hK (one_P hP.2.1.1) (ci := 0) (q0 := 0) rfl rfl)) rfl rfl hl.1 rfl (lv_room (Nat.le_of_ble_eq_true rfl)) dX1_isHatLent_7 ⟨Nat.le_of_ble_eq_true rfl, Nat.le_of_ble_eq_true rfl⟩)) (fun r_8 hr_8 => ?_)
    rw [hr_8]
    refine lv_icmp_ge (tgt := 46) hx hb dX1_isHatLent_10 (by decide) (fun _ => ?_) (fun c9 => absurd (nI_le (Nat.le_refl _) (by have := hI.1; omega)) c9)
    refine lv_iconst (v := 0) hx hb dX1_isHatLent_46 (by decide) ?_
    exact W.zret (ty := .boolean) (v := 0) hx hb hr rfl (fun t ht hW => ⟨_, rfl, (b01_f (fun ⟨j, h1, h2, h3⟩ => hj9 j h1 ⟨h2, h3⟩)).symm, ht⟩) (fun q hq => absurd hq List.not_mem_nil) dX1_isHatLent_47
set_option maxHeartbeats 4000000 in
set_option maxRecDepth 100000 in
/-- can i borrow the hat of o -/
theorem c_X1_canBorrow (l : Launch) (D : va_G) (cs : Cs) (ρ : Rf) {B : Nat} {σ : PS} (hI : InvS B σ) (hJ : InjA ρ (sK σ)) (i : Nat) (hi : i < sK σ) (o : Nat) (hy : o < sK σ) : Met l yX1_canBorrow wsX1_canBorrow ({ frames := 1, cells := 0, slots := 0, locals := 20 }) (va_Pc [.ref (r_a ρ i), .ref (r_a ρ o)] (RBp D cs (MemP D ρ σ))) (vp_Si (fun r : Int32 => r = b01 (canB σ i o))) 0 0 (fun _ => False) := by
  refine Met.ofW (cc := cX1_canBorrow) (maxL := 2) (ret := (some .boolean)) (by decide) rfl ?_
  intro p e s m args below meth c s₁ B0 hml hv
  obtain ⟨rfl, hP, hK, hN⟩ := hv
  have hx := B0.exec
  have hb := B0.bytes
  have hr := B0.returns
  have hts := atoms_spec (ws := wsX1_canBorrow) B0.pre
  have hown : s.vm.findClass RX1 = some m.cls := findClass_of_methodNamed B0.named
  have hlocks := B0.notSynchronized
  have hl := lv_entry ([.ref (r_a ρ i), .ref (r_a ρ o)]) (n := 2) (Nat.le_of_ble_eq_true rfl)
  rw [lg_entry_eq]
  generalize (lg_sl ([.ref (r_a ρ i), .ref (r_a ρ o)]) ++ List.replicate (2 - (lg_sl ([.ref (r_a ρ i), .ref (r_a ρ o)])).length) Slot.unset).toArray = ls at hl ⊢
  have hl : lv_has ls 2 [(0, .ref (r_a ρ i)), (1, .ref (r_a ρ o))] := hl
  refine lv_aload_n hx hb dX1_canBorrow_0 rfl (lv_at hl 0 rfl) ?_
  refine lv_aload_n hx hb dX1_canBorrow_1 rfl (lv_at hl 1 rfl) ?_
  refine lv_acmp_eq (rx := some (r_a ρ i)) (ry := some (r_a ρ o)) (tgt := 23) hx hb dX1_canBorrow_2 (by decide) (fun c_1 => ?_) (fun c_1 => ?_)
  · refine lv_iconst (v := 0) hx hb dX1_canBorrow_23 (by decide) ?_
    exact W.zret (ty := .boolean) (v := 0) hx hb hr rfl (fun t ht hW => ⟨_, rfl, (b01_f (fun q => q.1 ((mem_iff hJ hi hy).mp c_1).symm)).symm, ht⟩) (fun q hq => absurd hq List.not_mem_nil) dX1_canBorrow_24
  · refine lv_aload_n hx hb dX1_canBorrow_5 rfl (lv_at hl 1 rfl) ?_
    refine vp_callSi (va_Run.run (va_runVN (As := []) (rest := []) ⟨hx, hb, hml, hown, hts⟩ (c_X0_wearsOwnHat l D cs ρ hI hJ o hy) ⟨va_cnB 0 hts gX1_canBorrow_X0_wearsOwnHat_n200 rfl rfl rfl (hN (.methodLinkNest "ShadowSociety" 200 ⟨"ShadowSociety$Member", "wearsOwnHat", "()Z"⟩ "ShadowSociety") (by decide +kernel)) (hts (.initialized RX0) (List.mem_of_getElem? (i := 2) (by decide +kernel))) (by decide +kernel) ⟨Nat.le_of_ble_eq_true rfl, Nat.le_of_ble_eq_true rfl⟩, hts (.instanceMethod yX0_wearsOwnHat) (List.mem_of_getElem? (i := 1) (by decide +kernel)), hts (.selects RX0 yX0_wearsOwnHat yX0_wearsOwnHat) (List.mem_of_getElem? (i := 3) (by decide +kernel))⟩ (rb_V hK hN hP (va_recv hK (one_P (hP o hy)) (ci := 1) (q0 := 0) rfl rfl)) rfl rfl hl.1 rfl (lv_room (Nat.le_of_ble_eq_true rfl)) dX1_canBorrow_6 ⟨Nat.le_of_ble_eq_true rfl, Nat.le_of_ble_eq_true rfl⟩)) (fun r_2 hr_2 => ?_)
    rw [hr_2]
    refine lv_if_eq (tgt := 23) hx hb dX1_canBorrow_9 (by decide) (fun c_3 => ?_) (fun c_3 => ?_)
    · refine lv_iconst (v := 0) hx hb dX1_canBorrow_23 (by decide) ?_
      exact W.zret (ty := .boolean) (v := 0) hx hb hr rfl (fun t ht hW => ⟨_, rfl, (b01_f (fun q => b01_0.mp c_3 q.2.1)).symm, ht⟩) (fun q hq => absurd hq List.not_mem_nil) dX1_canBorrow_24
    · refine lv_aload_n hx hb dX1_canBorrow_12 rfl (lv_at hl 0 rfl) ?_
      refine vp_callSi (va_Run.run (va_runVN (As := []) (rest := []) ⟨hx, hb, hml, hown, hts⟩ (c_X0_wearsBorrowedHat l D cs ρ hI hJ i hi) ⟨va_cnB 0 hts gX1_canBorrow_X0_wearsBorrowedHat_n94 rfl rfl rfl (hN (.methodLinkNest "ShadowSociety" 94 ⟨"ShadowSociety$Member", "wearsBorrowedHat", "()Z"⟩ "ShadowSociety") (by decide +kernel)) (hts (.initialized RX0) (List.mem_of_getElem? (i := 2) (by decide +kernel))) (by decide +kernel) ⟨Nat.le_of_ble_eq_true rfl, Nat.le_of_ble_eq_true rfl⟩, hts (.instanceMethod yX0_wearsBorrowedHat) (List.mem_of_getElem? (i := 6) (by decide +kernel)), hts (.selects RX0 yX0_wearsBorrowedHat yX0_wearsBorrowedHat) (List.mem_of_getElem? (i := 7) (by decide +kernel))⟩ (rb_V hK hN hP (va_recv hK (one_P (hP i hi)) (ci := 1) (q0 := 0) rfl rfl)) rfl rfl hl.1 rfl (lv_room (Nat.le_of_ble_eq_true rfl)) dX1_canBorrow_13 ⟨Nat.le_of_ble_eq_true rfl, Nat.le_of_ble_eq_true rfl⟩)) (fun r_4 hr_4 => ?_)
      rw [hr_4]
      refine lv_if_ne (tgt := 23) hx hb dX1_canBorrow_16 (by decide) (fun c_5 => ?_) (fun c_5 => ?_)
      · refine lv_iconst (v := 0) hx hb dX1_canBorrow_23 (by decide) ?_
        exact W.zret (ty := .boolean) (v := 0) hx hb hr rfl (fun t ht hW => ⟨_, rfl, (b01_f (fun q => q.2.2 (b01_n.mp c_5))).symm, ht⟩) (fun q hq => absurd hq List.not_mem_nil) dX1_canBorrow_24
      · refine lv_iconst (v := 1) hx hb dX1_canBorrow_19 (by decide) ?_
        refine lv_goto (tgt := 24) hx hb dX1_canBorrow_20 (by decide) ?_
        exact W.zret (ty := .boolean) (v := 1) hx hb hr rfl (fun t ht hW => ⟨_, rfl, (b01_t ⟨fun q => c_1 ((mem_iff hJ hi hy).mpr q.symm), b01_n.mp c_3, b01_0.mp c_5⟩).symm, ht⟩) (fun q hq => absurd hq List.not_mem_nil) dX1_canBorrow_24
theorem in_X1_bestHatFor_X0 : ∀ w ∈ wsX00, w ∈ wsX1_bestHatFor := by decide +kernel
theorem in_X1_bestHatFor_X1 : ∀ w ∈ wsX10, w ∈ wsX1_bestHatFor := by decide +kernel
set_option maxHeartbeats 4000000 in
set_option maxRecDepth 100000 in
/-- whose hat had best be borrowed: a loop over the members -/
theorem c_X1_bestHatFor (l : Launch) (D : va_G) (cs : Cs) (ρ : Rf) {B : Nat} {σ : PS} (hI : InvS B σ) (hJ : InjA ρ (sK σ)) (x : Nat) (hy : x < sK σ) : Met l yX1_bestHatFor wsX1_bestHatFor ({ frames := 3, cells := 0, slots := 0, locals := 64 }) (va_Pc [.ref (r_h ρ), .ref (r_a ρ x)] (RBp D cs (Soc D cs ρ σ))) (vp_Si (fun r : Int32 => r = bestS σ x)) 0 0 (fun _ => False) := by
  refine Met.ofW (cc := cX1_bestHatFor) (maxL := 7) (ret := (some .int)) (by decide) rfl ?_
  intro p e s m args below meth c s₁ B0 hml hv
  obtain ⟨rfl, hP, hK, hN⟩ := hv
  have hx := B0.exec
  have hb := B0.bytes
  have hr := B0.returns
  have hts := atoms_spec (ws := wsX1_bestHatFor) B0.pre
  have hown : s.vm.findClass RX1 = some m.cls := findClass_of_methodNamed B0.named
  have hlocks := B0.notSynchronized
  have hl := lv_entry ([.ref (r_h ρ), .ref (r_a ρ x)]) (n := 7) (Nat.le_of_ble_eq_true rfl)
  rw [lg_entry_eq]
  generalize (lg_sl ([.ref (r_h ρ), .ref (r_a ρ x)]) ++ List.replicate (7 - (lg_sl ([.ref (r_h ρ), .ref (r_a ρ x)])).length) Slot.unset).toArray = ls at hl ⊢
  have hl : lv_has ls 7 [(0, .ref (r_h ρ)), (1, .ref (r_a ρ x))] := hl
  refine lv_iconst (v := (-1)) hx hb dX1_bestHatFor_0 (by decide) ?_
  refine lv_istore_n (lv' := [(2, .int (-1)), (0, .ref (r_h ρ)), (1, .ref (r_a ρ x))]) hx hb dX1_bestHatFor_1 rfl hl (by decide) rfl (fun ls hl => ?_)
  refine lv_iconst (v := 0) hx hb dX1_bestHatFor_2 (by decide) ?_
  refine lv_istore_n (lv' := [(3, .int 0), (2, .int (-1)), (0, .ref (r_h ρ)), (1, .ref (r_a ρ x))]) hx hb dX1_bestHatFor_3 rfl hl (by decide) rfl (fun ls hl => ?_)
  refine lv_iconst (v := 0) hx hb dX1_bestHatFor_4 (by decide) ?_
  refine lv_istore (lv' := [(4, .int 0), (3, .int 0), (2, .int (-1)), (0, .ref (r_h ρ)), (1, .ref (r_a ρ x))]) hx hb dX1_bestHatFor_5 hl (by decide) rfl (fun ls hl => ?_)
  refine lv_for (sK σ) (fun ls => F0 m 7 ls []) (fun n9 => [(0, .ref (r_h ρ)), (1, .ref (r_a ρ x)), (2, .int (ampS (fun o => canB σ x o) (fun o => hatShS σ x o) n9)), (3, .int (ampV (fun o => canB σ x o) (fun o => hatShS σ x o) n9)), (4, .int (nI n9))]) (fun _ => True) (show lv_has ls 7 [(0, .ref (r_h ρ)), (1, .ref (r_a ρ x)), (2, .int (ampS (fun o => canB σ x o) (fun o => hatShS σ x o) 0)), (3, .int (ampV (fun o => canB σ x o) (fun o => hatShS σ x o) 0)), (4, .int (nI 0))] from lv_sub hl [3, 4, 2, 1, 0] rfl) (trivial) (fun n9 ls hn9 hj9 hl K9 => ?_) (fun ls hj9 hl => ?_)
  · have hl : lv_has ls 7 [(0, .ref (r_h ρ)), (1, .ref (r_a ρ x)), (2, .int (ampS (fun o => canB σ x o) (fun o => hatShS σ x o) n9)), (3, .int (ampV (fun o => canB σ x o) (fun o => hatShS σ x o) n9)), (4, .int (nI n9))] := hl
    refine lv_iload hx hb dX1_bestHatFor_7 (lv_at hl 4 rfl) ?_
    refine lv_aload_n hx hb dX1_bestHatFor_9 rfl (lv_at hl 0 rfl) ?_
    refine va_get (D := D) (ci := 2) (v := .ref (r_q ρ)) (C := RX1) (T := TX1) (N := 4) hx hb hts in_X1_bestHatFor_X1 hown hK (one_P hP.1) 0 rfl rfl 0 (by decide) (hts (.fieldLink RX1 10 "ShadowSociety" "roll" "Ljava/util/ArrayList;") (List.mem_of_getElem? (i := 1) (by decide +kernel))) (fun _ h9 => h9) rfl dX1_bestHatFor_10 ?_
    refine vp_callSi (va_Run.run (va_runV (As := []) (rest := [.int (nI n9)]) ⟨hx, hb, hml, hown, hts⟩ (c_Jx4a65c_size_8abf5 l D cs ρ hI hJ) (cwV 0 hts gX1_bestHatFor_Jx4a65c_size_8abf5 rfl rfl rfl (by decide +kernel) ⟨Nat.le_of_ble_eq_true rfl, Nat.le_of_ble_eq_true rfl⟩) (rb_V hK hN hP.2.1 (va_recv hK (one_P hP.2.1.1) (ci := 0) (q0 := 0) rfl rfl)) rfl rfl hl.1 rfl (lv_room (Nat.le_of_ble_eq_true rfl)) dX1_bestHatFor_13 ⟨Nat.le_of_ble_eq_true rfl, Nat.le_of_ble_eq_true rfl⟩)) (fun r_1 hr_1 => ?_)
    rw [hr_1]
    refine lv_icmp_ge (tgt := 84) hx hb dX1_bestHatFor_16 (by decide) (fun c9 => absurd c9 (nI_ge hn9 (by have := hI.1; omega))) (fun _ => ?_)
    refine lv_aload_n hx hb dX1_bestHatFor_19 rfl (lv_at hl 0 rfl) ?_
    refine va_get (D := D) (ci := 2) (v := .ref (r_q ρ)) (C := RX1) (T := TX1) (N := 4) hx hb hts in_X1_bestHatFor_X1 hown hK (one_P hP.1) 0 rfl rfl 0 (by decide) (hts (.fieldLink RX1 10 "ShadowSociety" "roll" "Ljava/util/ArrayList;") (List.mem_of_getElem? (i := 1) (by decide +kernel))) (fun _ h9 => h9) rfl dX1_bestHatFor_20 ?_
    refine lv_iload hx hb dX1_bestHatFor_23 (lv_at hl 4 rfl) ?_
    refine va_csq (va_Run.run (va_runV (As := [.int (nI n9)]) (rest := []) ⟨hx, hb, hml, hown, hts⟩ (c_Jx4a65c_get_915e3 l D cs ρ hI hJ n9 hn9) (cwV 1 hts gX1_bestHatFor_Jx4a65c_get_915e3 rfl rfl rfl (by decide +kernel) ⟨Nat.le_of_ble_eq_true rfl, Nat.le_of_ble_eq_true rfl⟩) (rb_V hK hN hP.2.1 (va_recv hK (one_P hP.2.1.1) (ci := 0) (q0 := 0) rfl rfl)) rfl rfl hl.1 rfl (lv_room (Nat.le_of_ble_eq_true rfl)) dX1_bestHatFor_25 ⟨Nat.le_of_ble_eq_true rfl, Nat.le_of_ble_eq_true rfl⟩)) (fun r_2 hr_2 => ?_)
    rw [hr_2]
    refine va_castS (nm := RX0) hx hb hown (hts (.classLink RX1 44 RX0) (List.mem_of_getElem? (i := 2) (by decide +kernel))) (hK.1 1 _ rfl).2 (va_recv hK (one_P (hP.2.2 n9 hn9)) (ci := 1) (q0 := 0) rfl rfl) dX1_bestHatFor_28 ?_
    refine lv_astore (lv' := [(5, .ref (r_a ρ n9)), (0, .ref (r_h ρ)), (1, .ref (r_a ρ x)), (2, .int (ampS (fun o => canB σ x o) (fun o => hatShS σ x o) n9)), (3, .int (ampV (fun o => canB σ x o) (fun o => hatShS σ x o) n9)), (4, .int (nI n9))]) hx hb dX1_bestHatFor_31 hl (by decide) rfl (fun ls hl => ?_)
    refine lv_aload_n hx hb dX1_bestHatFor_33 rfl (lv_at hl 2 rfl) ?_
    refine lv_aload hx hb dX1_bestHatFor_34 (lv_at hl 0 rfl) ?_
    refine vp_callSi (va_Run.run (va_runS (As := [.ref (r_a ρ x), .ref (r_a ρ n9)]) (rest := []) ⟨hx, hb, hml, hown, hts⟩ (c_X1_canBorrow l D cs ρ hI hJ x hy n9 hn9) (va_cwS 2 hts gX1_bestHatFor_X1_canBorrow rfl rfl rfl (by decide +kernel) ⟨Nat.le_of_ble_eq_true rfl, Nat.le_of_ble_eq_true rfl⟩) (rb_S hK hN hP.2.2) rfl rfl hl.1 rfl (lv_room (Nat.le_of_ble_eq_true rfl)) dX1_bestHatFor_36 ⟨Nat.le_of_ble_eq_true rfl, Nat.le_of_ble_eq_true rfl⟩)) (fun r_3 hr_3 => ?_)
    rw [hr_3]
    refine lv_if_eq (tgt := 78) hx hb dX1_bestHatFor_39 (by decide) (fun c_4 => ?_) (fun c_4 => ?_)
    · refine lv_iinc (v := nI (n9 + 1)) (lv' := [(4, .int (nI (n9 + 1))), (5, .ref (r_a ρ n9)), (0, .ref (r_h ρ)), (1, .ref (r_a ρ x)), (2, .int (ampS (fun o => canB σ x o) (fun o => hatShS σ x o) n9)), (3, .int (ampV (fun o => canB σ x o) (fun o => hatShS σ x o) n9))]) hx hb dX1_bestHatFor_78 hl (k := 5) rfl (nI_add _ 1) (by decide) rfl (fun ls hl => ?_)
      refine lv_goto (tgt := 7) hx hb dX1_bestHatFor_81 (by decide) ?_
      refine K9 ls (trivial) ?_
      show lv_has ls 7 [(0, .ref (r_h ρ)), (1, .ref (r_a ρ x)), (2, .int (ampS (fun o => canB σ x o) (fun o => hatShS σ x o) (n9 + 1))), (3, .int (ampV (fun o => canB σ x o) (fun o => hatShS σ x o) (n9 + 1))), (4, .int (nI (n9 + 1)))]
      rw [show ampS (fun o => canB σ x o) (fun o => hatShS σ x o) (n9 + 1) = ampS (fun o => canB σ x o) (fun o => hatShS σ x o) n9 from (amp_skip (p := fun o => canB σ x o) (f := fun o => hatShS σ x o) (b01_0.mp c_4)).1]
      rw [show ampV (fun o => canB σ x o) (fun o => hatShS σ x o) (n9 + 1) = ampV (fun o => canB σ x o) (fun o => hatShS σ x o) n9 from (amp_skip (p := fun o => canB σ x o) (f := fun o => hatShS σ x o) (b01_0.mp c_4)).2]
      exact lv_sub hl [2, 3, 4, 5, 0] rfl
    · refine lv_aload_n hx hb dX1_bestHatFor_42 rfl (lv_at hl 2 rfl) ?_
      refine va_getN (D := D) (ci := 1) (v := .int (sHe σ x)) (C := RX0) (T := TX0) (N := 9) hx hb hts in_X1_bestHatFor_X0 hown hK (one_P (hP.2.2 x hy)) 0 rfl rfl 1 (by decide) (Nst.use hN (w := .fieldLinkNest "ShadowSociety" 221 "ShadowSociety$Member" "height" "I" "ShadowSociety") (by decide +kernel)) (fun _ h9 => h9) rfl dX1_bestHatFor_43 ?_
      refine lv_aload hx hb dX1_bestHatFor_46 (lv_at hl 0 rfl) ?_
      refine va_getN (D := D) (ci := 1) (v := .int (sHa σ n9)) (C := RX0) (T := TX0) (N := 9) hx hb hts in_X1_bestHatFor_X0 hown hK (one_P (hP.2.2 n9 hn9)) 0 rfl rfl 2 (by decide) (Nst.use hN (w := .fieldLinkNest "ShadowSociety" 89 "ShadowSociety$Member" "hat" "I" "ShadowSociety") (by decide +kernel)) (fun _ h9 => h9) rfl dX1_bestHatFor_48 ?_
      refine lv_iadd hx hb dX1_bestHatFor_51 ?_
      refine lv_aload_n hx hb dX1_bestHatFor_52 rfl (lv_at hl 1 rfl) ?_
      refine vp_callSi (va_Run.run (va_runV (As := []) (rest := [.int ((sHe σ x) + (sHa σ n9))]) ⟨hx, hb, hml, hown, hts⟩ (c_X1_hourOfDay l D cs ρ hI hJ) (cwV 0 hts gX1_bestHatFor_X1_hourOfDay rfl rfl rfl (by decide +kernel) ⟨Nat.le_of_ble_eq_true rfl, Nat.le_of_ble_eq_true rfl⟩) (rb_V hK hN hP (va_recv hK (one_P hP.1) (ci := 2) (q0 := 0) rfl rfl)) rfl rfl hl.1 rfl (lv_room (Nat.le_of_ble_eq_true rfl)) dX1_bestHatFor_53 ⟨Nat.le_of_ble_eq_true rfl, Nat.le_of_ble_eq_true rfl⟩)) (fun r_5 hr_5 => ?_)
      rw [hr_5]
      refine vp_callSi (va_Run.run (va_runS (As := [.int ((sHe σ x) + (sHa σ n9)), .int (dayOf σ)]) (rest := []) ⟨hx, hb, hml, hown, hts⟩ (c_X1_naturalShadow l D cs ((sHe σ x) + (sHa σ n9)) (dayOf σ)) (va_cwS 2 hts gX1_bestHatFor_X1_naturalShadow rfl rfl rfl (by decide +kernel) ⟨Nat.le_of_ble_eq_true rfl, Nat.le_of_ble_eq_true rfl⟩) (rb_S hK hN trivial) rfl rfl hl.1 rfl (lv_room (Nat.le_of_ble_eq_true rfl)) dX1_bestHatFor_56 ⟨Nat.le_of_ble_eq_true rfl, Nat.le_of_ble_eq_true rfl⟩)) (fun r_6 hr_6 => ?_)
      rw [hr_6]
      refine lv_istore (lv' := [(6, .int (natSh ((sHe σ x) + (sHa σ n9)) (dayOf σ))), (5, .ref (r_a ρ n9)), (0, .ref (r_h ρ)), (1, .ref (r_a ρ x)), (2, .int (ampS (fun o => canB σ x o) (fun o => hatShS σ x o) n9)), (3, .int (ampV (fun o => canB σ x o) (fun o => hatShS σ x o) n9)), (4, .int (nI n9))]) hx hb dX1_bestHatFor_59 hl (by decide) rfl (fun ls hl => ?_)
      refine lv_iload_n hx hb dX1_bestHatFor_61 rfl (lv_at hl 4 rfl) ?_
      refine lv_iconst (v := (-1)) hx hb dX1_bestHatFor_62 (by decide) ?_
      refine lv_icmp_eq (tgt := 72) hx hb dX1_bestHatFor_63 (by decide) (fun c_7 => ?_) (fun c_7 => ?_)
      · refine lv_iload hx hb dX1_bestHatFor_72 (lv_at hl 6 rfl) ?_
        refine lv_istore_n (lv' := [(2, .int (nI n9)), (6, .int (natSh ((sHe σ x) + (sHa σ n9)) (dayOf σ))), (5, .ref (r_a ρ n9)), (0, .ref (r_h ρ)), (1, .ref (r_a ρ x)), (3, .int (ampV (fun o => canB σ x o) (fun o => hatShS σ x o) n9)), (4, .int (nI n9))]) hx hb dX1_bestHatFor_74 rfl hl (by decide) rfl (fun ls hl => ?_)
        refine lv_iload hx hb dX1_bestHatFor_75 (lv_at hl 1 rfl) ?_
        refine lv_istore_n (lv' := [(3, .int (natSh ((sHe σ x) + (sHa σ n9)) (dayOf σ))), (2, .int (nI n9)), (6, .int (natSh ((sHe σ x) + (sHa σ n9)) (dayOf σ))), (5, .ref (r_a ρ n9)), (0, .ref (r_h ρ)), (1, .ref (r_a ρ x)), (4, .int (nI n9))]) hx hb dX1_bestHatFor_77 rfl hl (by decide) rfl (fun ls hl => ?_)
        refine lv_iinc (v := nI (n9 + 1)) (lv' := [(4, .int (nI (n9 + 1))), (3, .int (natSh ((sHe σ x) + (sHa σ n9)) (dayOf σ))), (2, .int (nI n9)), (6, .int (natSh ((sHe σ x) + (sHa σ n9)) (dayOf σ))), (5, .ref (r_a ρ n9)), (0, .ref (r_h ρ)), (1, .ref (r_a ρ x))]) hx hb dX1_bestHatFor_78 hl (k := 6) rfl (nI_add _ 1) (by decide) rfl (fun ls hl => ?_)
        refine lv_goto (tgt := 7) hx hb dX1_bestHatFor_81 (by decide) ?_
        refine K9 ls (trivial) ?_
        show lv_has ls 7 [(0, .ref (r_h ρ)), (1, .ref (r_a ρ x)), (2, .int (ampS (fun o => canB σ x o) (fun o => hatShS σ x o) (n9 + 1))), (3, .int (ampV (fun o => canB σ x o) (fun o => hatShS σ x o) (n9 + 1))), (4, .int (nI (n9 + 1)))]
        rw [show ampS (fun o => canB σ x o) (fun o => hatShS σ x o) (n9 + 1) = nI n9 from (amp_n1 (p := fun o => canB σ x o) (f := fun o => hatShS σ x o) (by have := hI.1; omega) (b01_n.mp c_4) c_7).1]
        rw [show ampV (fun o => canB σ x o) (fun o => hatShS σ x o) (n9 + 1) = natSh ((sHe σ x) + (sHa σ n9)) (dayOf σ) from (amp_n1 (p := fun o => canB σ x o) (f := fun o => hatShS σ x o) (by have := hI.1; omega) (b01_n.mp c_4) c_7).2]
        exact lv_sub hl [5, 6, 2, 1, 0] rfl
      · refine lv_iload hx hb dX1_bestHatFor_66 (lv_at hl 0 rfl) ?_
        refine lv_iload_n hx hb dX1_bestHatFor_68 rfl (lv_at hl 5 rfl) ?_
        refine lv_icmp_le (tgt := 78) hx hb dX1_bestHatFor_69 (by decide) (fun c_8 => ?_) (fun c_8 => ?_)
        · refine lv_iinc (v := nI (n9 + 1)) (lv' := [(4, .int (nI (n9 + 1))), (6, .int (natSh ((sHe σ x) + (sHa σ n9)) (dayOf σ))), (5, .ref (r_a ρ n9)), (0, .ref (r_h ρ)), (1, .ref (r_a ρ x)), (2, .int (ampS (fun o => canB σ x o) (fun o => hatShS σ x o) n9)), (3, .int (ampV (fun o => canB σ x o) (fun o => hatShS σ x o) n9))]) hx hb dX1_bestHatFor_78 hl (k := 6) rfl (nI_add _ 1) (by decide) rfl (fun ls hl => ?_)
          refine lv_goto (tgt := 7) hx hb dX1_bestHatFor_81 (by decide) ?_
          refine K9 ls (trivial) ?_
          show lv_has ls 7 [(0, .ref (r_h ρ)), (1, .ref (r_a ρ x)), (2, .int (ampS (fun o => canB σ x o) (fun o => hatShS σ x o) (n9 + 1))), (3, .int (ampV (fun o => canB σ x o) (fun o => hatShS σ x o) (n9 + 1))), (4, .int (nI (n9 + 1)))]
          rw [show ampS (fun o => canB σ x o) (fun o => hatShS σ x o) (n9 + 1) = ampS (fun o => canB σ x o) (fun o => hatShS σ x o) n9 from (amp_k (p := fun o => canB σ x o) (f := fun o => hatShS σ x o) (b01_n.mp c_4) c_7 c_8).1]
          rw [show ampV (fun o => canB σ x o) (fun o => hatShS σ x o) (n9 + 1) = ampV (fun o => canB σ x o) (fun o => hatShS σ x o) n9 from (amp_k (p := fun o => canB σ x o) (f := fun o => hatShS σ x o) (b01_n.mp c_4) c_7 c_8).2]
          exact lv_sub hl [3, 4, 5, 6, 0] rfl
        · refine lv_iload hx hb dX1_bestHatFor_72 (lv_at hl 6 rfl) ?_
          refine lv_istore_n (lv' := [(2, .int (nI n9)), (6, .int (natSh ((sHe σ x) + (sHa σ n9)) (dayOf σ))), (5, .ref (r_a ρ n9)), (0, .ref (r_h ρ)), (1, .ref (r_a ρ x)), (3, .int (ampV (fun o => canB σ x o) (fun o => hatShS σ x o) n9)), (4, .int (nI n9))]) hx hb dX1_bestHatFor_74 rfl hl (by decide) rfl (fun ls hl => ?_)
          refine lv_iload hx hb dX1_bestHatFor_75 (lv_at hl 1 rfl) ?_
          refine lv_istore_n (lv' := [(3, .int (natSh ((sHe σ x) + (sHa σ n9)) (dayOf σ))), (2, .int (nI n9)), (6, .int (natSh ((sHe σ x) + (sHa σ n9)) (dayOf σ))), (5, .ref (r_a ρ n9)), (0, .ref (r_h ρ)), (1, .ref (r_a ρ x)), (4, .int (nI n9))]) hx hb dX1_bestHatFor_77 rfl hl (by decide) rfl (fun ls hl => ?_)
          refine lv_iinc (v := nI (n9 + 1)) (lv' := [(4, .int (nI (n9 + 1))), (3, .int (natSh ((sHe σ x) + (sHa σ n9)) (dayOf σ))), (2, .int (nI n9)), (6, .int (natSh ((sHe σ x) + (sHa σ n9)) (dayOf σ))), (5, .ref (r_a ρ n9)), (0, .ref (r_h ρ)), (1, .ref (r_a ρ x))]) hx hb dX1_bestHatFor_78 hl (k := 6) rfl (nI_add _ 1) (by decide) rfl (fun ls hl => ?_)
          refine lv_goto (tgt := 7) hx hb dX1_bestHatFor_81 (by decide) ?_
          refine K9 ls (trivial) ?_
          show lv_has ls 7 [(0, .ref (r_h ρ)), (1, .ref (r_a ρ x)), (2, .int (ampS (fun o => canB σ x o) (fun o => hatShS σ x o) (n9 + 1))), (3, .int (ampV (fun o => canB σ x o) (fun o => hatShS σ x o) (n9 + 1))), (4, .int (nI (n9 + 1)))]
          rw [show ampS (fun o => canB σ x o) (fun o => hatShS σ x o) (n9 + 1) = nI n9 from (amp_n2 (p := fun o => canB σ x o) (f := fun o => hatShS σ x o) (by have := hI.1; omega) (b01_n.mp c_4) c_7 c_8).1]
          rw [show ampV (fun o => canB σ x o) (fun o => hatShS σ x o) (n9 + 1) = natSh ((sHe σ x) + (sHa σ n9)) (dayOf σ) from (amp_n2 (p := fun o => canB σ x o) (f := fun o => hatShS σ x o) (by have := hI.1; omega) (b01_n.mp c_4) c_7 c_8).2]
          exact lv_sub hl [5, 6, 2, 1, 0] rfl
  · have hl : lv_has ls 7 [(0, .ref (r_h ρ)), (1, .ref (r_a ρ x)), (2, .int (ampS (fun o => canB σ x o) (fun o => hatShS σ x o) (sK σ))), (3, .int (ampV (fun o => canB σ x o) (fun o => hatShS σ x o) (sK σ))), (4, .int (nI (sK σ)))] := hl
    refine lv_iload hx hb dX1_bestHatFor_7 (lv_at hl 4 rfl) ?_
    refine lv_aload_n hx hb dX1_bestHatFor_9 rfl (lv_at hl 0 rfl) ?_
    refine va_get (D := D) (ci := 2) (v := .ref (r_q ρ)) (C := RX1) (T := TX1) (N := 4) hx hb hts in_X1_bestHatFor_X1 hown hK (one_P hP.1) 0 rfl rfl 0 (by decide) (hts (.fieldLink RX1 10 "ShadowSociety" "roll" "Ljava/util/ArrayList;") (List.mem_of_getElem? (i := 1) (by decide +kernel))) (fun _ h9 => h9) rfl dX1_bestHatFor_10 ?_
    refine vp_callSi (va_Run.run (va_runV (As := []) (rest := [.int (nI (sK σ))]) ⟨hx, hb, hml, hown, hts⟩ (c_Jx4a65c_size_8abf5 l D cs ρ hI hJ) (cwV 0 hts gX1_bestHatFor_Jx4a65c_size_8abf5 rfl rfl rfl (by decide +kernel) ⟨Nat.le_of_ble_eq_true rfl, Nat.le_of_ble_eq_true rfl⟩) (rb_V hK hN hP.2.1 (va_recv hK (one_P hP.2.1.1) (ci := 0) (q0 := 0) rfl rfl)) rfl rfl hl.1 rfl (lv_room (Nat.le_of_ble_eq_true rfl)) dX1_bestHatFor_13 ⟨Nat.le_of_ble_eq_true rfl, Nat.le_of_ble_eq_true rfl⟩)) (fun r_9 hr_9 => ?_)
    rw [hr_9]
    refine lv_icmp_ge (tgt := 84) hx hb dX1_bestHatFor_16 (by decide) (fun _ => ?_) (fun c9 => absurd (nI_le (Nat.le_refl _) (by have := hI.1; omega)) c9)
    refine lv_iload_n hx hb dX1_bestHatFor_84 rfl (lv_at hl 2 rfl) ?_
    exact W.iret (v := ampS (fun o => canB σ x o) (fun o => hatShS σ x o) (sK σ)) hx hb hr (fun t ht hW => ⟨_, rfl, rfl, ht⟩) (fun q hq => absurd hq List.not_mem_nil) dX1_bestHatFor_85
set_option maxHeartbeats 4000000 in
set_option maxRecDepth 100000 in
/-- the shadow in d hours -/
theorem c_X1_shadowAhead (l : Launch) (D : va_G) (cs : Cs) (ρ : Rf) {B : Nat} {σ : PS} (hI : InvS B σ) (hJ : InjA ρ (sK σ)) (x : Nat) (hy : x < sK σ) (d : Int32) : Met l yX1_shadowAhead wsX1_shadowAhead ({ frames := 3, cells := 0, slots := 0, locals := 56 }) (va_Pc [.ref (r_h ρ), .ref (r_a ρ x), .int d] (RBp D cs (Soc D cs ρ σ))) (vp_Si (fun r : Int32 => r = aheadS σ x d)) 0 0 (fun _ => False) := by
  refine Met.ofW (cc := cX1_shadowAhead) (maxL := 4) (ret := (some .int)) (by decide) rfl ?_
  intro p e s m args below meth c s₁ B0 hml hv
  obtain ⟨rfl, hP, hK, hN⟩ := hv
  have hx := B0.exec
  have hb := B0.bytes
  have hr := B0.returns
  have hts := atoms_spec (ws := wsX1_shadowAhead) B0.pre
  have hown : s.vm.findClass RX1 = some m.cls := findClass_of_methodNamed B0.named
  have hlocks := B0.notSynchronized
  have hl := lv_entry ([.ref (r_h ρ), .ref (r_a ρ x), .int d]) (n := 4) (Nat.le_of_ble_eq_true rfl)
  rw [lg_entry_eq]
  generalize (lg_sl ([.ref (r_h ρ), .ref (r_a ρ x), .int d]) ++ List.replicate (4 - (lg_sl ([.ref (r_h ρ), .ref (r_a ρ x), .int d])).length) Slot.unset).toArray = ls at hl ⊢
  have hl : lv_has ls 4 [(0, .ref (r_h ρ)), (1, .ref (r_a ρ x)), (2, .int d)] := hl
  refine lv_aload_n hx hb dX1_shadowAhead_0 rfl (lv_at hl 0 rfl) ?_
  refine vp_callSi (va_Run.run (va_runV (As := []) (rest := []) ⟨hx, hb, hml, hown, hts⟩ (c_X1_hourOfDay l D cs ρ hI hJ) (cwV 0 hts gX1_shadowAhead_X1_hourOfDay rfl rfl rfl (by decide +kernel) ⟨Nat.le_of_ble_eq_true rfl, Nat.le_of_ble_eq_true rfl⟩) (rb_V hK hN hP (va_recv hK (one_P hP.1) (ci := 2) (q0 := 0) rfl rfl)) rfl rfl hl.1 rfl (lv_room (Nat.le_of_ble_eq_true rfl)) dX1_shadowAhead_1 ⟨Nat.le_of_ble_eq_true rfl, Nat.le_of_ble_eq_true rfl⟩)) (fun r_1 hr_1 => ?_)
  rw [hr_1]
  refine lv_iload_n hx hb dX1_shadowAhead_4 rfl (lv_at hl 2 rfl) ?_
  refine lv_iadd hx hb dX1_shadowAhead_5 ?_
  refine lv_bipush (v := 24) hx hb dX1_shadowAhead_6 (by decide) ?_
  refine lv_irem hx hb dX1_shadowAhead_8 (by decide) ?_
  refine lv_istore_n (lv' := [(3, .int (((dayOf σ) + d) - ((dayOf σ) + d) / 24 * 24)), (0, .ref (r_h ρ)), (1, .ref (r_a ρ x)), (2, .int d)]) hx hb dX1_shadowAhead_9 rfl hl (by decide) rfl (fun ls hl => ?_)
  refine lv_iload_n hx hb dX1_shadowAhead_10 rfl (lv_at hl 3 rfl) ?_
  refine lv_aload_n hx hb dX1_shadowAhead_11 rfl (lv_at hl 1 rfl) ?_
  refine vp_callSi (va_Run.run (va_runV (As := []) (rest := [.int d]) ⟨hx, hb, hml, hown, hts⟩ (c_X1_hoursUntilAudit l D cs ρ hI hJ) (cwV 0 hts gX1_shadowAhead_X1_hoursUntilAudit rfl rfl rfl (by decide +kernel) ⟨Nat.le_of_ble_eq_true rfl, Nat.le_of_ble_eq_true rfl⟩) (rb_V hK hN hP (va_recv hK (one_P hP.1) (ci := 2) (q0 := 0) rfl rfl)) rfl rfl hl.1 rfl (lv_room (Nat.le_of_ble_eq_true rfl)) dX1_shadowAhead_12 ⟨Nat.le_of_ble_eq_true rfl, Nat.le_of_ble_eq_true rfl⟩)) (fun r_2 hr_2 => ?_)
  rw [hr_2]
  refine lv_icmp_ge (tgt := 26) hx hb dX1_shadowAhead_15 (by decide) (fun c_3 => ?_) (fun c_3 => ?_)
  · refine lv_aload_n hx hb dX1_shadowAhead_26 rfl (lv_at hl 2 rfl) ?_
    refine lv_iload_n hx hb dX1_shadowAhead_27 rfl (lv_at hl 0 rfl) ?_
    refine vp_callSi (va_Run.run (va_runVN (As := [.int (((dayOf σ) + d) - ((dayOf σ) + d) / 24 * 24)]) (rest := []) ⟨hx, hb, hml, hown, hts⟩ (c_X0_honestShadowAt l D cs ρ hI hJ x hy (((dayOf σ) + d) - ((dayOf σ) + d) / 24 * 24)) ⟨va_cnB 1 hts gX1_shadowAhead_X0_honestShadowAt_n146 rfl rfl rfl (hN (.methodLinkNest "ShadowSociety" 146 ⟨"ShadowSociety$Member", "honestShadowAt", "(I)I"⟩ "ShadowSociety") (by decide +kernel)) (hts (.initialized RX0) (List.mem_of_getElem? (i := 12) (by decide +kernel))) (by decide +kernel) ⟨Nat.le_of_ble_eq_true rfl, Nat.le_of_ble_eq_true rfl⟩, hts (.instanceMethod yX0_honestShadowAt) (List.mem_of_getElem? (i := 29) (by decide +kernel)), hts (.selects RX0 yX0_honestShadowAt yX0_honestShadowAt) (List.mem_of_getElem? (i := 30) (by decide +kernel))⟩ (rb_V hK hN hP.2.2 (va_recv hK (one_P (hP.2.2 x hy)) (ci := 1) (q0 := 0) rfl rfl)) rfl rfl hl.1 rfl (lv_room (Nat.le_of_ble_eq_true rfl)) dX1_shadowAhead_28 ⟨Nat.le_of_ble_eq_true rfl, Nat.le_of_ble_eq_true rfl⟩)) (fun r_4 hr_4 => ?_)
    rw [hr_4]
    exact W.iret (v := honsS σ x (((dayOf σ) + d) - ((dayOf σ) + d) / 24 * 24)) hx hb hr (fun t ht hW => ⟨_, rfl, (by unfold aheadS; rw [if_neg (fun q => absurd c_3 (by simpa using q))]), ht⟩) (fun q hq => absurd hq List.not_mem_nil) dX1_shadowAhead_31
  · refine lv_aload_n hx hb dX1_shadowAhead_18 rfl (lv_at hl 2 rfl) ?_
    refine lv_iload_n hx hb dX1_shadowAhead_19 rfl (lv_at hl 0 rfl) ?_
    refine vp_callSi (va_Run.run (va_runVN (As := [.int (((dayOf σ) + d) - ((dayOf σ) + d) / 24 * 24)]) (rest := []) ⟨hx, hb, hml, hown, hts⟩ (c_X0_shadowAt l D cs ρ hI hJ x hy (((dayOf σ) + d) - ((dayOf σ) + d) / 24 * 24)) ⟨va_cnB 1 hts gX1_shadowAhead_X0_shadowAt_n113 rfl rfl rfl (hN (.methodLinkNest "ShadowSociety" 113 ⟨"ShadowSociety$Member", "shadowAt", "(I)I"⟩ "ShadowSociety") (by decide +kernel)) (hts (.initialized RX0) (List.mem_of_getElem? (i := 12) (by decide +kernel))) (by decide +kernel) ⟨Nat.le_of_ble_eq_true rfl, Nat.le_of_ble_eq_true rfl⟩, hts (.instanceMethod yX0_shadowAt) (List.mem_of_getElem? (i := 11) (by decide +kernel)), hts (.selects RX0 yX0_shadowAt yX0_shadowAt) (List.mem_of_getElem? (i := 13) (by decide +kernel))⟩ (rb_V hK hN hP.2.2 (va_recv hK (one_P (hP.2.2 x hy)) (ci := 1) (q0 := 0) rfl rfl)) rfl rfl hl.1 rfl (lv_room (Nat.le_of_ble_eq_true rfl)) dX1_shadowAhead_20 ⟨Nat.le_of_ble_eq_true rfl, Nat.le_of_ble_eq_true rfl⟩)) (fun r_5 hr_5 => ?_)
    rw [hr_5]
    refine lv_goto (tgt := 31) hx hb dX1_shadowAhead_23 (by decide) ?_
    exact W.iret (v := shadS σ x (((dayOf σ) + d) - ((dayOf σ) + d) / 24 * 24)) hx hb hr (fun t ht hW => ⟨_, rfl, (by unfold aheadS; rw [if_pos (by simpa using c_3)]), ht⟩) (fun q hq => absurd hq List.not_mem_nil) dX1_shadowAhead_31
set_option maxHeartbeats 4000000 in
set_option maxRecDepth 100000 in
/-- the hour of the longest shadow: a loop over 23 hours -/
theorem c_X1_hoursToLongestShadow (l : Launch) (D : va_G) (cs : Cs) (ρ : Rf) {B : Nat} {σ : PS} (hI : InvS B σ) (hJ : InjA ρ (sK σ)) (x : Nat) (hy : x < sK σ) : Met l yX1_hoursToLongestShadow wsX1_hoursToLongestShadow ({ frames := 4, cells := 0, slots := 0, locals := 79 }) (va_Pc [.ref (r_h ρ), .ref (r_a ρ x)] (RBp D cs (Soc D cs ρ σ))) (vp_Si (fun r : Int32 => r = longInS σ x)) 0 0 (fun _ => False) := by
  refine Met.ofW (cc := cX1_hoursToLongestShadow) (maxL := 6) (ret := (some .int)) (by decide) rfl ?_
  intro p e s m args below meth c s₁ B0 hml hv
  obtain ⟨rfl, hP, hK, hN⟩ := hv
  have hx := B0.exec
  have hb := B0.bytes
  have hr := B0.returns
  have hts := atoms_spec (ws := wsX1_hoursToLongestShadow) B0.pre
  have hown : s.vm.findClass RX1 = some m.cls := findClass_of_methodNamed B0.named
  have hlocks := B0.notSynchronized
  have hl := lv_entry ([.ref (r_h ρ), .ref (r_a ρ x)]) (n := 6) (Nat.le_of_ble_eq_true rfl)
  rw [lg_entry_eq]
  generalize (lg_sl ([.ref (r_h ρ), .ref (r_a ρ x)]) ++ List.replicate (6 - (lg_sl ([.ref (r_h ρ), .ref (r_a ρ x)])).length) Slot.unset).toArray = ls at hl ⊢
  have hl : lv_has ls 6 [(0, .ref (r_h ρ)), (1, .ref (r_a ρ x))] := hl
  refine lv_iconst (v := 0) hx hb dX1_hoursToLongestShadow_0 (by decide) ?_
  refine lv_istore_n (lv' := [(2, .int 0), (0, .ref (r_h ρ)), (1, .ref (r_a ρ x))]) hx hb dX1_hoursToLongestShadow_1 rfl hl (by decide) rfl (fun ls hl => ?_)
  refine lv_aload_n hx hb dX1_hoursToLongestShadow_2 rfl (lv_at hl 2 rfl) ?_
  refine lv_aload_n hx hb dX1_hoursToLongestShadow_3 rfl (lv_at hl 1 rfl) ?_
  refine vp_callSi (va_Run.run (va_runV (As := []) (rest := [.ref (r_a ρ x)]) ⟨hx, hb, hml, hown, hts⟩ (c_X1_hourOfDay l D cs ρ hI hJ) (cwV 0 hts gX1_hoursToLongestShadow_X1_hourOfDay rfl rfl rfl (by decide +kernel) ⟨Nat.le_of_ble_eq_true rfl, Nat.le_of_ble_eq_true rfl⟩) (rb_V hK hN hP (va_recv hK (one_P hP.1) (ci := 2) (q0 := 0) rfl rfl)) rfl rfl hl.1 rfl (lv_room (Nat.le_of_ble_eq_true rfl)) dX1_hoursToLongestShadow_4 ⟨Nat.le_of_ble_eq_true rfl, Nat.le_of_ble_eq_true rfl⟩)) (fun r_1 hr_1 => ?_)
  rw [hr_1]
  refine vp_callSi (va_Run.run (va_runVN (As := [.int (dayOf σ)]) (rest := []) ⟨hx, hb, hml, hown, hts⟩ (c_X0_shadowAt l D cs ρ hI hJ x hy (dayOf σ)) ⟨va_cnB 1 hts gX1_hoursToLongestShadow_X0_shadowAt_n113 rfl rfl rfl (hN (.methodLinkNest "ShadowSociety" 113 ⟨"ShadowSociety$Member", "shadowAt", "(I)I"⟩ "ShadowSociety") (by decide +kernel)) (hts (.initialized RX0) (List.mem_of_getElem? (i := 8) (by decide +kernel))) (by decide +kernel) ⟨Nat.le_of_ble_eq_true rfl, Nat.le_of_ble_eq_true rfl⟩, hts (.instanceMethod yX0_shadowAt) (List.mem_of_getElem? (i := 7) (by decide +kernel)), hts (.selects RX0 yX0_shadowAt yX0_shadowAt) (List.mem_of_getElem? (i := 9) (by decide +kernel))⟩ (rb_V hK hN hP.2.2 (va_recv hK (one_P (hP.2.2 x hy)) (ci := 1) (q0 := 0) rfl rfl)) rfl rfl hl.1 rfl (lv_room (Nat.le_of_ble_eq_true rfl)) dX1_hoursToLongestShadow_7 ⟨Nat.le_of_ble_eq_true rfl, Nat.le_of_ble_eq_true rfl⟩)) (fun r_2 hr_2 => ?_)
  rw [hr_2]
  refine lv_istore_n (lv' := [(3, .int (shadS σ x (dayOf σ))), (2, .int 0), (0, .ref (r_h ρ)), (1, .ref (r_a ρ x))]) hx hb dX1_hoursToLongestShadow_10 rfl hl (by decide) rfl (fun ls hl => ?_)
  refine lv_iconst (v := 1) hx hb dX1_hoursToLongestShadow_11 (by decide) ?_
  refine lv_istore (lv' := [(4, .int 1), (3, .int (shadS σ x (dayOf σ))), (2, .int 0), (0, .ref (r_h ρ)), (1, .ref (r_a ρ x))]) hx hb dX1_hoursToLongestShadow_12 hl (by decide) rfl (fun ls hl => ?_)
  refine lv_for (23) (fun ls => F0 m 14 ls []) (fun n9 => [(0, .ref (r_h ρ)), (1, .ref (r_a ρ x)), (2, .int (amxS (fun o => aheadS σ x (nI o)) (n9 + 1))), (3, .int (amxV (fun o => aheadS σ x (nI o)) (n9 + 1))), (4, .int (nI (n9 + 1)))]) (fun _ => True) (show lv_has ls 6 [(0, .ref (r_h ρ)), (1, .ref (r_a ρ x)), (2, .int (amxS (fun o => aheadS σ x (nI o)) (0 + 1))), (3, .int (amxV (fun o => aheadS σ x (nI o)) (0 + 1))), (4, .int (nI (0 + 1)))] from (by rw [show amxS (fun o => aheadS σ x (nI o)) (0 + 1) = 0 from (long_0 hI x).1, show amxV (fun o => aheadS σ x (nI o)) (0 + 1) = shadS σ x (dayOf σ) from (long_0 hI x).2]; exact lv_sub hl [3, 4, 2, 1, 0] rfl)) (trivial) (fun n9 ls hn9 hj9 hl K9 => ?_) (fun ls hj9 hl => ?_)
  · have hl : lv_has ls 6 [(0, .ref (r_h ρ)), (1, .ref (r_a ρ x)), (2, .int (amxS (fun o => aheadS σ x (nI o)) (n9 + 1))), (3, .int (amxV (fun o => aheadS σ x (nI o)) (n9 + 1))), (4, .int (nI (n9 + 1)))] := hl
    refine lv_iload hx hb dX1_hoursToLongestShadow_14 (lv_at hl 4 rfl) ?_
    refine lv_bipush (v := 24) hx hb dX1_hoursToLongestShadow_16 (by decide) ?_
    refine lv_icmp_ge (tgt := 48) hx hb dX1_hoursToLongestShadow_18 (by decide) (fun c9 => absurd c9 (nI_ge (show n9 + 1 < 24 by omega) (by decide))) (fun _ => ?_)
    refine lv_aload_n hx hb dX1_hoursToLongestShadow_21 rfl (lv_at hl 0 rfl) ?_
    refine lv_aload_n hx hb dX1_hoursToLongestShadow_22 rfl (lv_at hl 1 rfl) ?_
    refine lv_iload hx hb dX1_hoursToLongestShadow_23 (lv_at hl 4 rfl) ?_
    refine vp_callSi (va_Run.run (va_runV (As := [.ref (r_a ρ x), .int (nI (n9 + 1))]) (rest := []) ⟨hx, hb, hml, hown, hts⟩ (c_X1_shadowAhead l D cs ρ hI hJ x hy (nI (n9 + 1))) (cwV 2 hts gX1_hoursToLongestShadow_X1_shadowAhead rfl rfl rfl (by decide +kernel) ⟨Nat.le_of_ble_eq_true rfl, Nat.le_of_ble_eq_true rfl⟩) (rb_V hK hN hP (va_recv hK (one_P hP.1) (ci := 2) (q0 := 0) rfl rfl)) rfl rfl hl.1 rfl (lv_room (Nat.le_of_ble_eq_true rfl)) dX1_hoursToLongestShadow_25 ⟨Nat.le_of_ble_eq_true rfl, Nat.le_of_ble_eq_true rfl⟩)) (fun r_3 hr_3 => ?_)
    rw [hr_3]
    refine lv_istore (lv' := [(5, .int (aheadS σ x (nI (n9 + 1)))), (0, .ref (r_h ρ)), (1, .ref (r_a ρ x)), (2, .int (amxS (fun o => aheadS σ x (nI o)) (n9 + 1))), (3, .int (amxV (fun o => aheadS σ x (nI o)) (n9 + 1))), (4, .int (nI (n9 + 1)))]) hx hb dX1_hoursToLongestShadow_28 hl (by decide) rfl (fun ls hl => ?_)
    refine lv_iload hx hb dX1_hoursToLongestShadow_30 (lv_at hl 0 rfl) ?_
    refine lv_iload_n hx hb dX1_hoursToLongestShadow_32 rfl (lv_at hl 4 rfl) ?_
    refine lv_icmp_le (tgt := 42) hx hb dX1_hoursToLongestShadow_33 (by decide) (fun c_4 => ?_) (fun c_4 => ?_)
    · refine lv_iinc (v := nI (n9 + 2)) (lv' := [(4, .int (nI (n9 + 2))), (5, .int (aheadS σ x (nI (n9 + 1)))), (0, .ref (r_h ρ)), (1, .ref (r_a ρ x)), (2, .int (amxS (fun o => aheadS σ x (nI o)) (n9 + 1))), (3, .int (amxV (fun o => aheadS σ x (nI o)) (n9 + 1)))]) hx hb dX1_hoursToLongestShadow_42 hl (k := 5) rfl (nI_add _ 1) (by decide) rfl (fun ls hl => ?_)
      refine lv_goto (tgt := 14) hx hb dX1_hoursToLongestShadow_45 (by decide) ?_
      refine K9 ls (trivial) ?_
      show lv_has ls 6 [(0, .ref (r_h ρ)), (1, .ref (r_a ρ x)), (2, .int (amxS (fun o => aheadS σ x (nI o)) ((n9 + 1) + 1))), (3, .int (amxV (fun o => aheadS σ x (nI o)) ((n9 + 1) + 1))), (4, .int (nI ((n9 + 1) + 1)))]
      rw [show amxS (fun o => aheadS σ x (nI o)) ((n9 + 1) + 1) = amxS (fun o => aheadS σ x (nI o)) (n9 + 1) from (amp_k (p := fun _ => True) (f := fun o => aheadS σ x (nI o)) True.intro (amp_ne (p := fun _ => True) (f := fun o => aheadS σ x (nI o)) (n := n9 + 1) (fun _ => trivial) (Nat.succ_pos _) (by omega)) c_4).1]
      rw [show amxV (fun o => aheadS σ x (nI o)) ((n9 + 1) + 1) = amxV (fun o => aheadS σ x (nI o)) (n9 + 1) from (amp_k (p := fun _ => True) (f := fun o => aheadS σ x (nI o)) True.intro (amp_ne (p := fun _ => True) (f := fun o => aheadS σ x (nI o)) (n := n9 + 1) (fun _ => trivial) (Nat.succ_pos _) (by omega)) c_4).2]
      rw [show nI ((n9 + 1) + 1) = nI (n9 + 2) from rfl]
      exact lv_sub hl [2, 3, 4, 5, 0] rfl
    · refine lv_iload hx hb dX1_hoursToLongestShadow_36 (lv_at hl 5 rfl) ?_
      refine lv_istore_n (lv' := [(2, .int (nI (n9 + 1))), (5, .int (aheadS σ x (nI (n9 + 1)))), (0, .ref (r_h ρ)), (1, .ref (r_a ρ x)), (3, .int (amxV (fun o => aheadS σ x (nI o)) (n9 + 1))), (4, .int (nI (n9 + 1)))]) hx hb dX1_hoursToLongestShadow_38 rfl hl (by decide) rfl (fun ls hl => ?_)
      refine lv_iload hx hb dX1_hoursToLongestShadow_39 (lv_at hl 1 rfl) ?_
      refine lv_istore_n (lv' := [(3, .int (aheadS σ x (nI (n9 + 1)))), (2, .int (nI (n9 + 1))), (5, .int (aheadS σ x (nI (n9 + 1)))), (0, .ref (r_h ρ)), (1, .ref (r_a ρ x)), (4, .int (nI (n9 + 1)))]) hx hb dX1_hoursToLongestShadow_41 rfl hl (by decide) rfl (fun ls hl => ?_)
      refine lv_iinc (v := nI (n9 + 2)) (lv' := [(4, .int (nI (n9 + 2))), (3, .int (aheadS σ x (nI (n9 + 1)))), (2, .int (nI (n9 + 1))), (5, .int (aheadS σ x (nI (n9 + 1)))), (0, .ref (r_h ρ)), (1, .ref (r_a ρ x))]) hx hb dX1_hoursToLongestShadow_42 hl (k := 5) rfl (nI_add _ 1) (by decide) rfl (fun ls hl => ?_)
      refine lv_goto (tgt := 14) hx hb dX1_hoursToLongestShadow_45 (by decide) ?_
      refine K9 ls (trivial) ?_
      show lv_has ls 6 [(0, .ref (r_h ρ)), (1, .ref (r_a ρ x)), (2, .int (amxS (fun o => aheadS σ x (nI o)) ((n9 + 1) + 1))), (3, .int (amxV (fun o => aheadS σ x (nI o)) ((n9 + 1) + 1))), (4, .int (nI ((n9 + 1) + 1)))]
      rw [show amxS (fun o => aheadS σ x (nI o)) ((n9 + 1) + 1) = nI (n9 + 1) from (amp_n2 (p := fun _ => True) (f := fun o => aheadS σ x (nI o)) (by omega) True.intro (amp_ne (p := fun _ => True) (f := fun o => aheadS σ x (nI o)) (n := n9 + 1) (fun _ => trivial) (Nat.succ_pos _) (by omega)) c_4).1]
      rw [show amxV (fun o => aheadS σ x (nI o)) ((n9 + 1) + 1) = aheadS σ x (nI (n9 + 1)) from (amp_n2 (p := fun _ => True) (f := fun o => aheadS σ x (nI o)) (by omega) True.intro (amp_ne (p := fun _ => True) (f := fun o => aheadS σ x (nI o)) (n := n9 + 1) (fun _ => trivial) (Nat.succ_pos _) (by omega)) c_4).2]
      rw [show nI ((n9 + 1) + 1) = nI (n9 + 2) from rfl]
      exact lv_sub hl [4, 5, 2, 1, 0] rfl
  · have hl : lv_has ls 6 [(0, .ref (r_h ρ)), (1, .ref (r_a ρ x)), (2, .int (amxS (fun o => aheadS σ x (nI o)) (23 + 1))), (3, .int (amxV (fun o => aheadS σ x (nI o)) (23 + 1))), (4, .int (nI (23 + 1)))] := hl
    refine lv_iload hx hb dX1_hoursToLongestShadow_14 (lv_at hl 4 rfl) ?_
    refine lv_bipush (v := 24) hx hb dX1_hoursToLongestShadow_16 (by decide) ?_
    refine lv_icmp_ge (tgt := 48) hx hb dX1_hoursToLongestShadow_18 (by decide) (fun _ => ?_) (fun c9 => absurd (nI_le (Nat.le_refl 24) (by decide)) c9)
    refine lv_iload_n hx hb dX1_hoursToLongestShadow_48 rfl (lv_at hl 2 rfl) ?_
    exact W.iret (v := amxS (fun o => aheadS σ x (nI o)) (23 + 1)) hx hb hr (fun t ht hW => ⟨_, rfl, rfl, ht⟩) (fun q hq => absurd hq List.not_mem_nil) dX1_hoursToLongestShadow_49
set_option maxHeartbeats 4000000 in
set_option maxRecDepth 100000 in
theorem c_X1_mixed (l : Launch) (D : va_G) (cs : Cs) (d x : Int64) : Met l yX1_mixed wsX1_mixed ({ frames := 0, cells := 0, slots := 0, locals := 0 }) (va_Pc [.long d, .long x] (RBp D cs (fun _ => True))) (vp_Sl (fun r : Int64 => r = mixL d x)) 0 0 (fun _ => False) := by
  refine Met.ofW (cc := cX1_mixed) (maxL := 4) (ret := (some .long)) (by decide) rfl ?_
  intro p e s m args below meth c s₁ B0 hml hv
  obtain ⟨rfl, hP, hK, hN⟩ := hv
  have hx := B0.exec
  have hb := B0.bytes
  have hr := B0.returns
  have hts := atoms_spec (ws := wsX1_mixed) B0.pre
  have hown : s.vm.findClass RX1 = some m.cls := findClass_of_methodNamed B0.named
  have hlocks := B0.notSynchronized
  have hl := lv_entry ([.long d, .long x]) (n := 4) (Nat.le_of_ble_eq_true rfl)
  rw [lg_entry_eq]
  generalize (lg_sl ([.long d, .long x]) ++ List.replicate (4 - (lg_sl ([.long d, .long x])).length) Slot.unset).toArray = ls at hl ⊢
  have hl : lv_has ls 4 [(0, .long d), (2, .long x)] := hl
  refine lv_lload_n hx hb dX1_mixed_0 rfl (lv_at hl 0 rfl) ?_
  refine lv_ldc2 (v := 31) hx hb hown (hts (.constantLong RX1 240 (31)) (List.mem_of_getElem? (i := 1) (by decide +kernel))) dX1_mixed_1 ?_
  refine lv_lmul hx hb dX1_mixed_4 ?_
  refine lv_lload_n hx hb dX1_mixed_5 rfl (lv_at hl 1 rfl) ?_
  refine lv_ladd hx hb dX1_mixed_6 ?_
  exact W.lret (v := (d * 31) + x) hx hb hr (fun t ht hW => ⟨_, rfl, rfl, ht⟩) (fun q hq => absurd hq List.not_mem_nil) dX1_mixed_7
